/-! the law's cases -/
set_option maxHeartbeats 4000000 in
set_option maxRecDepth 100000 in
theorem law_size {p : Program} {l : Launch} {e : Env} {s : State} {m : MethodId} {below : List Frame} {meth : Method} {c : Code} {b L : Nat} {xs : Nat → Int32} {E : wE} {cL cD : ClassId} {g gm : Nat → Nat} {ao ad : Nat} (C : LC p l s m meth c b L xs E cL cD g gm ao ad) {n B : Nat} (hn : 4 * n + 4 ≤ L) (hB : B ≤ 60000) {H : Heap} {locs : List Loc} {cells slots : Nat} {ls : Array Slot} {Q : State → Prop} (hcl9 : cells + 3 ≤ 601024) (hsl9 : slots + 18 ≤ 7293034) (hI : LI E cL cD g gm ao ad B H) (hS : va_S (lwA s) s.heap H locs)
    (hl : lv_has ls 9 [(0, .ref b), (1, .ref (g 0)), (2, .ref (gm 0)), (3, .ref ao), (4, .ref ad), (5, .int (nI (4 * n)))])
    (kk : ∀ (H2 : Heap) (locs2 : List Loc) (ls2 : Array Slot), LI E cL cD g gm ao ad (B + 100) H2 → va_S (lwA s) s.heap H2 locs2 → lv_has ls2 9 [(0, .ref b), (1, .ref (g 0)), (2, .ref (gm 0)), (3, .ref ao), (4, .ref ad), (5, .int (nI (4 * n)))] → W p l e room_1 s m #[Value.ref b] below meth c H2 locs2 (cells + 3) (slots + 18) Q (F0 m 1485 ls2 [])) : W p l e room_1 s m #[Value.ref b] below meth c H locs cells slots Q (F0 m 152 ls []) := by
  have hx := C.hx
  have hb := C.hb
  have hml := C.hml
  have hown := C.hown
  have hts := C.hts
  have hX := C.hX
  have hbl := C.hbl
  have hst := C.hst
  have hL := C.hL
  have hK := C.hK
  have hKL := C.hKL
  have hxe := C.hxe
  have hxc := C.hxc
  obtain ⟨ln, bf, z, y, ke, hs, ms, th, cd, x0, d0, hM, hO, hZ, hR, hcd, hLo, hDo⟩ := hI
  have hzr := hM.rng
  have hAn : ∀ q, wF 6 gm q → lwA s q := by rintro q ⟨k, hk, rfl⟩; exact C.hAm k hk
  have hmg : ∀ k, k < 94 → ¬ wF 6 gm (g k) := by rintro k hk ⟨j, hj, e9⟩; exact C.ngm k j hk hj e9
  have hmo : ¬ wF 6 gm ao := by rintro ⟨j, hj, e9⟩; exact C.nmo j hj e9.symm
  have hmd : ¬ wF 6 gm ad := by rintro ⟨j, hj, e9⟩; exact C.nmd j hj e9.symm
  have hAw : ∀ q, wA g ao q → lwA s q := by
    rintro q (⟨k, hk, rfl⟩ | rfl)
    · exact C.hAg k hk
    · exact C.hAo
  have hwm : ∀ k, k < 6 → ¬ wA g ao (gm k) := by
    rintro k hk (⟨j, hj, e9⟩ | e9)
    · exact C.ngm j k hj hk e9.symm
    · exact C.nmo k hk e9
  have hwo : ¬ wA g ao ad := by
    rintro (⟨j, hj, e9⟩ | e9)
    · exact C.ngd j hj e9.symm
    · exact C.nod e9.symm
  obtain ⟨w1, hw1⟩ : ∃ w, xs (4 * n + 1) = w := ⟨_, rfl⟩
  refine lv_aload_n hx hb dL_law_152 rfl (lv_at hl 1 rfl) ?_
  refine sc_load hx hb hX hbl hS hL hn (j := 1) (by decide) hw1 (lv_at hl 0 rfl) (lv_at hl 5 rfl) (by decide) dL_law_153 dL_law_154 dL_law_156 dL_law_157 dL_law_158 ?_
  refine lv_aload_n hx hb dL_law_159 rfl (lv_at hl 3 rfl) ?_
  refine va_calli (vx_runSW (As := [.ref (g 0), .int w1, .ref ao]) (rest := []) ⟨hx, hb, hml, hown, hts⟩ (c_L_size l hst cL cD ao E g ln bf z ke hs w1) (vx_cwSW 3 hts gL_law_L_size rfl rfl rfl (by decide +kernel) ⟨Nat.le_of_ble_eq_true rfl, Nat.le_of_ble_eq_true rfl⟩) ⟨wL.blind, fun U hU hW => wL.go hM ⟨_, hLo⟩ hK hKL C.hI C.ngo hxe hxc hS hAw hU hW⟩ rfl rfl hl.1 rfl (lv_room (Nat.le_of_ble_eq_true rfl)) dL_law_160 ⟨Nat.le_trans (Nat.add_le_add_left (by decide) cells) hcl9, Nat.le_trans (Nat.add_le_add_left (by decide) slots) hsl9⟩) hS (fun q _ h => hAw q h) (fun q h => hAw q h) (fun r_1 u1 t H_1 locs_1 ht hvm hw hB1 hz1 hk1 hS => ?_)
  obtain rfl : r_1 = u1 := hw
  rw [ht] at hB1
  have hO := hO.at hk1 hwm
  have hDo := (hk1 ad hDo.lt hwo).trans hDo
  clear hLo hM
  rcases hB1 with ⟨rfl, hc, hLo, hM⟩ | ⟨rfl, hc, ⟨x1, hLo⟩, hM⟩
  · skip
    obtain ⟨n2, h2, h12, rfl⟩ := i_rng (a := 2) (b := 12) hc (by decide) (by decide)
    have hcls : (nI n2).toNatClampNeg = n2 := nI_clamp (by omega)
    simp only [hcls] at hM hLo
    refine lv_istore (lv' := [(6, .int 0), (0, .ref b), (1, .ref (g 0)), (2, .ref (gm 0)), (3, .ref ao), (4, .ref ad), (5, .int (nI (4 * n)))]) hx hb dL_law_163 hl (by decide) rfl (fun ls hl => ?_)
    refine lv_aload_n hx hb dL_law_165 rfl (lv_at hl 3 rfl) ?_
    refine sc_load hx hb hX hbl hS hL hn (j := 1) (by decide) hw1 (lv_at hl 1 rfl) (lv_at hl 6 rfl) (by decide) dL_law_166 dL_law_167 dL_law_169 dL_law_170 dL_law_171 ?_
    refine va_calli (va_runV (As := [_]) (rest := []) ⟨hx, hb, hml, hown, hts⟩ (c_X6_size_ok l E gm th ln bf y.1 y.2.1 y.2.2.1 y.2.2.2 ke ms n2 h2 h12) (cwV 1 hts gL_law_X6_size rfl rfl rfl (by decide +kernel) ⟨Nat.le_of_ble_eq_true rfl, Nat.le_of_ble_eq_true rfl⟩) ⟨wS.blind, hO.recv hK, fun U hU hW => wS.go hO hK C.hIm hU hW⟩ rfl rfl hl.1 rfl (lv_room (Nat.le_of_ble_eq_true rfl)) dL_law_172 ⟨(by show cells + 1 + 0 ≤ 601024; omega), (by show slots + 6 + 0 ≤ 7293034; omega)⟩) hS (fun q _ h => hAn q h) (fun q h => hAn q h) (fun r_2 u2 t H_2 locs_2 ht hvm hw hB2 hz2 hk2 hS => ?_)
    have hM := hM.at hk2 hmg
    have hLo := (hk2 ao (oA.lt hLo) hmo).trans hLo
    have hDo := (hk2 ad (oA.lt hDo) hmd).trans hDo
    rw [ht] at hB2
    obtain rfl := hw
    refine lv_topi (fun r7 hr7 => ?_)
    refine lv_istore (lv' := [(7, .int r7), (6, .int 0), (0, .ref b), (1, .ref (g 0)), (2, .ref (gm 0)), (3, .ref ao), (4, .ref ad), (5, .int (nI (4 * n)))]) hx hb dL_law_175 hl (by decide) rfl (fun ls hl => ?_)
    refine lv_aload_n hx hb dL_law_177 rfl (lv_at hl 4 rfl) ?_
    refine va_calli (va_runV (As := []) (rest := []) ⟨hx, hb, hml, hown, hts⟩ (c_X6_thrown_ok l E gm 0 ln bf n2 (cutV y.2.1 n2 12) y.2.2.1 (mapQ fgM y.2.2.2 3) (kpK ke) (pushM ke ms y)) (cwV 0 hts gL_law_X6_thrown rfl rfl rfl (by decide +kernel) ⟨Nat.le_of_ble_eq_true rfl, Nat.le_of_ble_eq_true rfl⟩) ⟨wS.blind, MOB.recv hK hB2, fun U hU hW => wS.go hB2 hK C.hIm hU hW⟩ rfl rfl hl.1 rfl (lv_room (Nat.le_of_ble_eq_true rfl)) dL_law_178 ⟨(by show cells + 1 + 0 + 0 ≤ 601024; omega), (by show slots + 6 + 0 + 0 ≤ 7293034; omega)⟩) hS (fun q _ h => hAn q h) (fun q h => hAn q h) (fun r_3 u3 t H_3 locs_3 ht hvm hw hB3 hz3 hk3 hS => ?_)
    have hM := hM.at hk3 hmg
    have hLo := (hk3 ao (oA.lt hLo) hmo).trans hLo
    have hDo := (hk3 ad (oA.lt hDo) hmd).trans hDo
    rw [ht] at hB3
    obtain rfl := hw
    refine lv_iload hx hb dL_law_181 (lv_at hl 1 rfl) ?_
    refine lv_icmp_eq (tgt := 188) hx hb dL_law_183 rfl (fun _ => ?_) (fun h => absurd rfl h)
    refine lv_iload hx hb dL_law_188 (lv_at hl 1 rfl) ?_
    refine lv_if_ne (tgt := 205) hx hb dL_law_190 rfl (fun h => absurd rfl h) (fun _ => ?_)
    have hLo := oA_eq hLo ((congrArg nI (a_size hZ)).trans hr7.symm)
    refine lv_aload_n hx hb dL_law_193 rfl (lv_at hl 5 rfl) ?_
    refine lv_iconst (v := 0) hx hb dL_law_194 (by decide) ?_
    refine w_lald hx hb hKL hLo dL_law_195 ?_
    refine lv_iload hx hb dL_law_196 (lv_at hl 0 rfl) ?_
    refine lv_i2l hx hb dL_law_198 rfl ?_
    refine W.lcmp hx hb dL_law_199 ?_
    rw [lg_same]
    refine lv_if_eq (tgt := 205) hx hb dL_law_200 rfl (fun _ => ?_) (fun h => absurd rfl h)
    refine lv_goto (tgt := 1485) hx hb dL_law_205 rfl ?_
    refine W.widen (k := cells + 3) (n := slots + 18) (by omega) (by omega) (kk _ _ _ ⟨ln, bf, (sizeZ z n2), (n2, (cutV y.2.1 n2 12), y.2.2.1, (mapQ fgM y.2.2.2 3)), (kpK ke), (pushH ke hs z), (pushM ke ms y), 0, cd, _, _, hM, hB3, RZ_le (size_mk hZ h2 h12) (by omega), RHs_le (push_mk hzr.1 hR hZ) (by omega), hcd, hLo, hDo⟩ hS (lv_sub hl [2, 3, 4, 5, 6, 7] rfl))
  · skip
    refine lv_istore (lv' := [(6, .int 1), (0, .ref b), (1, .ref (g 0)), (2, .ref (gm 0)), (3, .ref ao), (4, .ref ad), (5, .int (nI (4 * n)))]) hx hb dL_law_163 hl (by decide) rfl (fun ls hl => ?_)
    refine lv_aload_n hx hb dL_law_165 rfl (lv_at hl 3 rfl) ?_
    refine sc_load hx hb hX hbl hS hL hn (j := 1) (by decide) hw1 (lv_at hl 1 rfl) (lv_at hl 6 rfl) (by decide) dL_law_166 dL_law_167 dL_law_169 dL_law_170 dL_law_171 ?_
    refine va_calli (va_runV (As := [_]) (rest := []) ⟨hx, hb, hml, hown, hts⟩ (c_X6_size_no l E gm th ln bf y.1 y.2.1 y.2.2.1 y.2.2.2 ke ms w1 (inB_nr hc)) (cwV 1 hts gL_law_X6_size rfl rfl rfl (by decide +kernel) ⟨Nat.le_of_ble_eq_true rfl, Nat.le_of_ble_eq_true rfl⟩) ⟨wS.blind, hO.recv hK, fun U hU hW => wS.go hO hK C.hIm hU hW⟩ rfl rfl hl.1 rfl (lv_room (Nat.le_of_ble_eq_true rfl)) dL_law_172 ⟨(by show cells + 1 + 0 ≤ 601024; omega), (by show slots + 6 + 0 ≤ 7293034; omega)⟩) hS (fun q _ h => hAn q h) (fun q h => hAn q h) (fun r_2 u2 t H_2 locs_2 ht hvm hw hB2 hz2 hk2 hS => ?_)
    have hM := hM.at hk2 hmg
    have hLo := (hk2 ao (oA.lt hLo) hmo).trans hLo
    have hDo := (hk2 ad (oA.lt hDo) hmd).trans hDo
    rw [ht] at hB2
    obtain rfl := hw
    refine lv_topi (fun r7 hr7 => ?_)
    refine lv_istore (lv' := [(7, .int r7), (6, .int 1), (0, .ref b), (1, .ref (g 0)), (2, .ref (gm 0)), (3, .ref ao), (4, .ref ad), (5, .int (nI (4 * n)))]) hx hb dL_law_175 hl (by decide) rfl (fun ls hl => ?_)
    refine lv_aload_n hx hb dL_law_177 rfl (lv_at hl 4 rfl) ?_
    refine va_calli (va_runV (As := []) (rest := []) ⟨hx, hb, hml, hown, hts⟩ (c_X6_thrown_ok l E gm 1 ln bf y.1 y.2.1 y.2.2.1 y.2.2.2 ke ms) (cwV 0 hts gL_law_X6_thrown rfl rfl rfl (by decide +kernel) ⟨Nat.le_of_ble_eq_true rfl, Nat.le_of_ble_eq_true rfl⟩) ⟨wS.blind, MOB.recv hK hB2, fun U hU hW => wS.go hB2 hK C.hIm hU hW⟩ rfl rfl hl.1 rfl (lv_room (Nat.le_of_ble_eq_true rfl)) dL_law_178 ⟨(by show cells + 1 + 0 + 0 ≤ 601024; omega), (by show slots + 6 + 0 + 0 ≤ 7293034; omega)⟩) hS (fun q _ h => hAn q h) (fun q h => hAn q h) (fun r_3 u3 t H_3 locs_3 ht hvm hw hB3 hz3 hk3 hS => ?_)
    have hM := hM.at hk3 hmg
    have hLo := (hk3 ao (oA.lt hLo) hmo).trans hLo
    have hDo := (hk3 ad (oA.lt hDo) hmd).trans hDo
    rw [ht] at hB3
    obtain rfl := hw
    refine lv_iload hx hb dL_law_181 (lv_at hl 1 rfl) ?_
    refine lv_icmp_eq (tgt := 188) hx hb dL_law_183 rfl (fun _ => ?_) (fun h => absurd rfl h)
    refine lv_iload hx hb dL_law_188 (lv_at hl 1 rfl) ?_
    refine lv_if_ne (tgt := 205) hx hb dL_law_190 rfl (fun _ => ?_) (fun h => absurd h (by decide))
    refine lv_goto (tgt := 1485) hx hb dL_law_205 rfl ?_
    refine W.widen (k := cells + 3) (n := slots + 18) (by omega) (by omega) (kk _ _ _ ⟨ln, bf, z, (y.1, y.2.1, y.2.2.1, y.2.2.2), ke, hs, ms, 1, cd, _, _, hM, hB3, RZ_le hZ (by omega), RHs_le hR (by omega), hcd, hLo, hDo⟩ hS (lv_sub hl [2, 3, 4, 5, 6, 7] rfl))
set_option maxHeartbeats 4000000 in
set_option maxRecDepth 100000 in
theorem law_write {p : Program} {l : Launch} {e : Env} {s : State} {m : MethodId} {below : List Frame} {meth : Method} {c : Code} {b L : Nat} {xs : Nat → Int32} {E : wE} {cL cD : ClassId} {g gm : Nat → Nat} {ao ad : Nat} (C : LC p l s m meth c b L xs E cL cD g gm ao ad) {n B : Nat} (hn : 4 * n + 4 ≤ L) (hB : B ≤ 60000) {H : Heap} {locs : List Loc} {cells slots : Nat} {ls : Array Slot} {Q : State → Prop} (hcl9 : cells + 3 ≤ 601024) (hsl9 : slots + 18 ≤ 7293034) (hI : LI E cL cD g gm ao ad B H) (hS : va_S (lwA s) s.heap H locs)
    (hl : lv_has ls 9 [(0, .ref b), (1, .ref (g 0)), (2, .ref (gm 0)), (3, .ref ao), (4, .ref ad), (5, .int (nI (4 * n)))])
    (kk : ∀ (H2 : Heap) (locs2 : List Loc) (ls2 : Array Slot), LI E cL cD g gm ao ad (B + 100) H2 → va_S (lwA s) s.heap H2 locs2 → lv_has ls2 9 [(0, .ref b), (1, .ref (g 0)), (2, .ref (gm 0)), (3, .ref ao), (4, .ref ad), (5, .int (nI (4 * n)))] → W p l e room_1 s m #[Value.ref b] below meth c H2 locs2 (cells + 3) (slots + 18) Q (F0 m 1485 ls2 [])) : W p l e room_1 s m #[Value.ref b] below meth c H locs cells slots Q (F0 m 208 ls []) := by
  have hx := C.hx
  have hb := C.hb
  have hml := C.hml
  have hown := C.hown
  have hts := C.hts
  have hX := C.hX
  have hbl := C.hbl
  have hst := C.hst
  have hL := C.hL
  have hK := C.hK
  have hKL := C.hKL
  have hxe := C.hxe
  have hxc := C.hxc
  obtain ⟨ln, bf, z, y, ke, hs, ms, th, cd, x0, d0, hM, hO, hZ, hR, hcd, hLo, hDo⟩ := hI
  have hzr := hM.rng
  have hAn : ∀ q, wF 6 gm q → lwA s q := by rintro q ⟨k, hk, rfl⟩; exact C.hAm k hk
  have hmg : ∀ k, k < 94 → ¬ wF 6 gm (g k) := by rintro k hk ⟨j, hj, e9⟩; exact C.ngm k j hk hj e9
  have hmo : ¬ wF 6 gm ao := by rintro ⟨j, hj, e9⟩; exact C.nmo j hj e9.symm
  have hmd : ¬ wF 6 gm ad := by rintro ⟨j, hj, e9⟩; exact C.nmd j hj e9.symm
  have hAw : ∀ q, wA g ao q → lwA s q := by
    rintro q (⟨k, hk, rfl⟩ | rfl)
    · exact C.hAg k hk
    · exact C.hAo
  have hwm : ∀ k, k < 6 → ¬ wA g ao (gm k) := by
    rintro k hk (⟨j, hj, e9⟩ | e9)
    · exact C.ngm j k hj hk e9.symm
    · exact C.nmo k hk e9
  have hwo : ¬ wA g ao ad := by
    rintro (⟨j, hj, e9⟩ | e9)
    · exact C.ngd j hj e9.symm
    · exact C.nod e9.symm
  obtain ⟨w1, hw1⟩ : ∃ w, xs (4 * n + 1) = w := ⟨_, rfl⟩
  obtain ⟨w2, hw2⟩ : ∃ w, xs (4 * n + 2) = w := ⟨_, rfl⟩
  refine lv_aload_n hx hb dL_law_208 rfl (lv_at hl 1 rfl) ?_
  refine sc_load hx hb hX hbl hS hL hn (j := 1) (by decide) hw1 (lv_at hl 0 rfl) (lv_at hl 5 rfl) (by decide) dL_law_209 dL_law_210 dL_law_212 dL_law_213 dL_law_214 ?_
  refine sc_load hx hb hX hbl hS hL hn (j := 2) (by decide) hw2 (lv_at hl 0 rfl) (lv_at hl 5 rfl) (by decide) dL_law_215 dL_law_216 dL_law_218 dL_law_219 dL_law_220 ?_
  refine lv_aload_n hx hb dL_law_221 rfl (lv_at hl 3 rfl) ?_
  refine va_calli (vx_runSW (As := [.ref (g 0), .int w1, .int w2, .ref ao]) (rest := []) ⟨hx, hb, hml, hown, hts⟩ (c_L_write l hst cL cD ao E g ln bf z ke hs w1 w2) (vx_cwSW 4 hts gL_law_L_write rfl rfl rfl (by decide +kernel) ⟨Nat.le_of_ble_eq_true rfl, Nat.le_of_ble_eq_true rfl⟩) ⟨wL.blind, fun U hU hW => wL.go hM ⟨_, hLo⟩ hK hKL C.hI C.ngo hxe hxc hS hAw hU hW⟩ rfl rfl hl.1 rfl (lv_room (Nat.le_of_ble_eq_true rfl)) dL_law_222 ⟨Nat.le_trans (Nat.add_le_add_left (by decide) cells) hcl9, Nat.le_trans (Nat.add_le_add_left (by decide) slots) hsl9⟩) hS (fun q _ h => hAw q h) (fun q h => hAw q h) (fun r_1 u1 t H_1 locs_1 ht hvm hw hB1 hz1 hk1 hS => ?_)
  obtain rfl : r_1 = u1 := hw
  rw [ht] at hB1
  have hO := hO.at hk1 hwm
  have hDo := (hk1 ad hDo.lt hwo).trans hDo
  clear hLo hM
  rcases hB1 with ⟨rfl, hc, hLo, hM⟩ | ⟨rfl, hc, ⟨x1, hLo⟩, hM⟩ | ⟨rfl, hc, ⟨x1, hLo⟩, hM⟩
  · skip
    obtain ⟨bk, hbk, rfl⟩ := i_in hc.1 (by omega)
    obtain ⟨vn, hvn, rfl⟩ := i_in hc.2 (by decide)
    have hcls : (nI bk).toNatClampNeg = bk := nI_clamp (by omega)
    simp only [hcls] at hM hLo
    refine lv_istore (lv' := [(6, .int 0), (0, .ref b), (1, .ref (g 0)), (2, .ref (gm 0)), (3, .ref ao), (4, .ref ad), (5, .int (nI (4 * n)))]) hx hb dL_law_225 hl (by decide) rfl (fun ls hl => ?_)
    refine lv_aload_n hx hb dL_law_227 rfl (lv_at hl 3 rfl) ?_
    refine sc_load hx hb hX hbl hS hL hn (j := 1) (by decide) hw1 (lv_at hl 1 rfl) (lv_at hl 6 rfl) (by decide) dL_law_228 dL_law_229 dL_law_231 dL_law_232 dL_law_233 ?_
    refine sc_load hx hb hX hbl hS hL hn (j := 2) (by decide) hw2 (lv_at hl 1 rfl) (lv_at hl 6 rfl) (by decide) dL_law_234 dL_law_235 dL_law_237 dL_law_238 dL_law_239 ?_
    refine va_calli (va_runV (As := [_, _]) (rest := []) ⟨hx, hb, hml, hown, hts⟩ (c_X6_write_ok l E gm th ln bf y.1 y.2.1 y.2.2.1 y.2.2.2 ke ms bk (by rw [← a_size hZ]; exact hbk) (nI vn) (inB_v (n := 65536) rfl (by decide) (by decide) hc.2)) (cwV 2 hts gL_law_X6_write rfl rfl rfl (by decide +kernel) ⟨Nat.le_of_ble_eq_true rfl, Nat.le_of_ble_eq_true rfl⟩) ⟨wS.blind, hO.recv hK, fun U hU hW => wS.go hO hK C.hIm hU hW⟩ rfl rfl hl.1 rfl (lv_room (Nat.le_of_ble_eq_true rfl)) dL_law_240 ⟨(by show cells + 2 + 0 ≤ 601024; omega), (by show slots + 12 + 0 ≤ 7293034; omega)⟩) hS (fun q _ h => hAn q h) (fun q h => hAn q h) (fun r_2 u2 t H_2 locs_2 ht hvm hw hB2 hz2 hk2 hS => ?_)
    have hM := hM.at hk2 hmg
    have hLo := (hk2 ao (oA.lt hLo) hmo).trans hLo
    have hDo := (hk2 ad (oA.lt hDo) hmd).trans hDo
    rw [ht] at hB2
    obtain rfl := hw
    refine lv_topi (fun r7 hr7 => ?_)
    refine lv_istore (lv' := [(7, .int r7), (6, .int 0), (0, .ref b), (1, .ref (g 0)), (2, .ref (gm 0)), (3, .ref ao), (4, .ref ad), (5, .int (nI (4 * n)))]) hx hb dL_law_243 hl (by decide) rfl (fun ls hl => ?_)
    refine lv_aload_n hx hb dL_law_245 rfl (lv_at hl 4 rfl) ?_
    refine va_calli (va_runV (As := []) (rest := []) ⟨hx, hb, hml, hown, hts⟩ (c_X6_thrown_ok l E gm 0 ln bf y.1 (upd y.2.1 bk (nI vn)) y.2.2.1 (mapQ fgM y.2.2.2 3) (kpK ke) (pushM ke ms y)) (cwV 0 hts gL_law_X6_thrown rfl rfl rfl (by decide +kernel) ⟨Nat.le_of_ble_eq_true rfl, Nat.le_of_ble_eq_true rfl⟩) ⟨wS.blind, MOB.recv hK hB2, fun U hU hW => wS.go hB2 hK C.hIm hU hW⟩ rfl rfl hl.1 rfl (lv_room (Nat.le_of_ble_eq_true rfl)) dL_law_246 ⟨(by show cells + 2 + 0 + 0 ≤ 601024; omega), (by show slots + 12 + 0 + 0 ≤ 7293034; omega)⟩) hS (fun q _ h => hAn q h) (fun q h => hAn q h) (fun r_3 u3 t H_3 locs_3 ht hvm hw hB3 hz3 hk3 hS => ?_)
    have hM := hM.at hk3 hmg
    have hLo := (hk3 ao (oA.lt hLo) hmo).trans hLo
    have hDo := (hk3 ad (oA.lt hDo) hmd).trans hDo
    rw [ht] at hB3
    obtain rfl := hw
    refine lv_iload hx hb dL_law_249 (lv_at hl 1 rfl) ?_
    refine lv_icmp_eq (tgt := 256) hx hb dL_law_251 rfl (fun _ => ?_) (fun h => absurd rfl h)
    refine lv_iload hx hb dL_law_256 (lv_at hl 1 rfl) ?_
    refine lv_if_ne (tgt := 273) hx hb dL_law_258 rfl (fun h => absurd rfl h) (fun _ => ?_)
    have hLo := oA_eq hLo ((congrFun (a_va hZ) bk).trans hr7.symm)
    refine lv_aload_n hx hb dL_law_261 rfl (lv_at hl 5 rfl) ?_
    refine lv_iconst (v := 0) hx hb dL_law_262 (by decide) ?_
    refine w_lald hx hb hKL hLo dL_law_263 ?_
    refine lv_iload hx hb dL_law_264 (lv_at hl 0 rfl) ?_
    refine lv_i2l hx hb dL_law_266 rfl ?_
    refine W.lcmp hx hb dL_law_267 ?_
    rw [lg_same]
    refine lv_if_eq (tgt := 273) hx hb dL_law_268 rfl (fun _ => ?_) (fun h => absurd rfl h)
    refine lv_goto (tgt := 1485) hx hb dL_law_273 rfl ?_
    refine W.widen (k := cells + 3) (n := slots + 18) (by omega) (by omega) (kk _ _ _ ⟨ln, bf, (writeZ z bk (nI vn)), (y.1, (upd y.2.1 bk (nI vn)), y.2.2.1, (mapQ fgM y.2.2.2 3)), (kpK ke), (pushH ke hs z), (pushM ke ms y), 0, cd, _, _, hM, hB3, RZ_le (write_mk hZ hvn) (by omega), RHs_le (push_mk hzr.1 hR hZ) (by omega), hcd, hLo, hDo⟩ hS (lv_sub hl [2, 3, 4, 5, 6, 7] rfl))
  · skip
    refine lv_istore (lv' := [(6, .int 1), (0, .ref b), (1, .ref (g 0)), (2, .ref (gm 0)), (3, .ref ao), (4, .ref ad), (5, .int (nI (4 * n)))]) hx hb dL_law_225 hl (by decide) rfl (fun ls hl => ?_)
    refine lv_aload_n hx hb dL_law_227 rfl (lv_at hl 3 rfl) ?_
    refine sc_load hx hb hX hbl hS hL hn (j := 1) (by decide) hw1 (lv_at hl 1 rfl) (lv_at hl 6 rfl) (by decide) dL_law_228 dL_law_229 dL_law_231 dL_law_232 dL_law_233 ?_
    refine sc_load hx hb hX hbl hS hL hn (j := 2) (by decide) hw2 (lv_at hl 1 rfl) (lv_at hl 6 rfl) (by decide) dL_law_234 dL_law_235 dL_law_237 dL_law_238 dL_law_239 ?_
    refine va_calli (va_runV (As := [_, _]) (rest := []) ⟨hx, hb, hml, hown, hts⟩ (c_X6_write_no1 l E gm th ln bf y.1 y.2.1 y.2.2.1 y.2.2.2 ke ms w1 w2 (inB_f rfl (by have := a_size hZ; omega) (by have := a_size hZ; omega) (by rw [← a_size hZ]; exact hc))) (cwV 2 hts gL_law_X6_write rfl rfl rfl (by decide +kernel) ⟨Nat.le_of_ble_eq_true rfl, Nat.le_of_ble_eq_true rfl⟩) ⟨wS.blind, hO.recv hK, fun U hU hW => wS.go hO hK C.hIm hU hW⟩ rfl rfl hl.1 rfl (lv_room (Nat.le_of_ble_eq_true rfl)) dL_law_240 ⟨(by show cells + 2 + 0 ≤ 601024; omega), (by show slots + 12 + 0 ≤ 7293034; omega)⟩) hS (fun q _ h => hAn q h) (fun q h => hAn q h) (fun r_2 u2 t H_2 locs_2 ht hvm hw hB2 hz2 hk2 hS => ?_)
    have hM := hM.at hk2 hmg
    have hLo := (hk2 ao (oA.lt hLo) hmo).trans hLo
    have hDo := (hk2 ad (oA.lt hDo) hmd).trans hDo
    rw [ht] at hB2
    obtain rfl := hw
    refine lv_topi (fun r7 hr7 => ?_)
    refine lv_istore (lv' := [(7, .int r7), (6, .int 1), (0, .ref b), (1, .ref (g 0)), (2, .ref (gm 0)), (3, .ref ao), (4, .ref ad), (5, .int (nI (4 * n)))]) hx hb dL_law_243 hl (by decide) rfl (fun ls hl => ?_)
    refine lv_aload_n hx hb dL_law_245 rfl (lv_at hl 4 rfl) ?_
    refine va_calli (va_runV (As := []) (rest := []) ⟨hx, hb, hml, hown, hts⟩ (c_X6_thrown_ok l E gm 1 ln bf y.1 y.2.1 y.2.2.1 y.2.2.2 ke ms) (cwV 0 hts gL_law_X6_thrown rfl rfl rfl (by decide +kernel) ⟨Nat.le_of_ble_eq_true rfl, Nat.le_of_ble_eq_true rfl⟩) ⟨wS.blind, MOB.recv hK hB2, fun U hU hW => wS.go hB2 hK C.hIm hU hW⟩ rfl rfl hl.1 rfl (lv_room (Nat.le_of_ble_eq_true rfl)) dL_law_246 ⟨(by show cells + 2 + 0 + 0 ≤ 601024; omega), (by show slots + 12 + 0 + 0 ≤ 7293034; omega)⟩) hS (fun q _ h => hAn q h) (fun q h => hAn q h) (fun r_3 u3 t H_3 locs_3 ht hvm hw hB3 hz3 hk3 hS => ?_)
    have hM := hM.at hk3 hmg
    have hLo := (hk3 ao (oA.lt hLo) hmo).trans hLo
    have hDo := (hk3 ad (oA.lt hDo) hmd).trans hDo
    rw [ht] at hB3
    obtain rfl := hw
    refine lv_iload hx hb dL_law_249 (lv_at hl 1 rfl) ?_
    refine lv_icmp_eq (tgt := 256) hx hb dL_law_251 rfl (fun _ => ?_) (fun h => absurd rfl h)
    refine lv_iload hx hb dL_law_256 (lv_at hl 1 rfl) ?_
    refine lv_if_ne (tgt := 273) hx hb dL_law_258 rfl (fun _ => ?_) (fun h => absurd h (by decide))
    refine lv_goto (tgt := 1485) hx hb dL_law_273 rfl ?_
    refine W.widen (k := cells + 3) (n := slots + 18) (by omega) (by omega) (kk _ _ _ ⟨ln, bf, z, (y.1, y.2.1, y.2.2.1, y.2.2.2), ke, hs, ms, 1, cd, _, _, hM, hB3, RZ_le hZ (by omega), RHs_le hR (by omega), hcd, hLo, hDo⟩ hS (lv_sub hl [2, 3, 4, 5, 6, 7] rfl))
  · skip
    refine lv_istore (lv' := [(6, .int 2), (0, .ref b), (1, .ref (g 0)), (2, .ref (gm 0)), (3, .ref ao), (4, .ref ad), (5, .int (nI (4 * n)))]) hx hb dL_law_225 hl (by decide) rfl (fun ls hl => ?_)
    refine lv_aload_n hx hb dL_law_227 rfl (lv_at hl 3 rfl) ?_
    refine sc_load hx hb hX hbl hS hL hn (j := 1) (by decide) hw1 (lv_at hl 1 rfl) (lv_at hl 6 rfl) (by decide) dL_law_228 dL_law_229 dL_law_231 dL_law_232 dL_law_233 ?_
    refine sc_load hx hb hX hbl hS hL hn (j := 2) (by decide) hw2 (lv_at hl 1 rfl) (lv_at hl 6 rfl) (by decide) dL_law_234 dL_law_235 dL_law_237 dL_law_238 dL_law_239 ?_
    refine va_calli (va_runV (As := [_, _]) (rest := []) ⟨hx, hb, hml, hown, hts⟩ (c_X6_write_no2 l E gm th ln bf y.1 y.2.1 y.2.2.1 y.2.2.2 ke ms w1 w2 (inB_v rfl (by have := a_size hZ; omega) (by have := a_size hZ; omega) (by rw [← a_size hZ]; exact hc.1)) (inB_f (n := 65536) rfl (by decide) (by decide) hc.2)) (cwV 2 hts gL_law_X6_write rfl rfl rfl (by decide +kernel) ⟨Nat.le_of_ble_eq_true rfl, Nat.le_of_ble_eq_true rfl⟩) ⟨wS.blind, hO.recv hK, fun U hU hW => wS.go hO hK C.hIm hU hW⟩ rfl rfl hl.1 rfl (lv_room (Nat.le_of_ble_eq_true rfl)) dL_law_240 ⟨(by show cells + 2 + 0 ≤ 601024; omega), (by show slots + 12 + 0 ≤ 7293034; omega)⟩) hS (fun q _ h => hAn q h) (fun q h => hAn q h) (fun r_2 u2 t H_2 locs_2 ht hvm hw hB2 hz2 hk2 hS => ?_)
    have hM := hM.at hk2 hmg
    have hLo := (hk2 ao (oA.lt hLo) hmo).trans hLo
    have hDo := (hk2 ad (oA.lt hDo) hmd).trans hDo
    rw [ht] at hB2
    obtain rfl := hw
    refine lv_topi (fun r7 hr7 => ?_)
    refine lv_istore (lv' := [(7, .int r7), (6, .int 2), (0, .ref b), (1, .ref (g 0)), (2, .ref (gm 0)), (3, .ref ao), (4, .ref ad), (5, .int (nI (4 * n)))]) hx hb dL_law_243 hl (by decide) rfl (fun ls hl => ?_)
    refine lv_aload_n hx hb dL_law_245 rfl (lv_at hl 4 rfl) ?_
    refine va_calli (va_runV (As := []) (rest := []) ⟨hx, hb, hml, hown, hts⟩ (c_X6_thrown_ok l E gm 2 ln bf y.1 y.2.1 y.2.2.1 y.2.2.2 ke ms) (cwV 0 hts gL_law_X6_thrown rfl rfl rfl (by decide +kernel) ⟨Nat.le_of_ble_eq_true rfl, Nat.le_of_ble_eq_true rfl⟩) ⟨wS.blind, MOB.recv hK hB2, fun U hU hW => wS.go hB2 hK C.hIm hU hW⟩ rfl rfl hl.1 rfl (lv_room (Nat.le_of_ble_eq_true rfl)) dL_law_246 ⟨(by show cells + 2 + 0 + 0 ≤ 601024; omega), (by show slots + 12 + 0 + 0 ≤ 7293034; omega)⟩) hS (fun q _ h => hAn q h) (fun q h => hAn q h) (fun r_3 u3 t H_3 locs_3 ht hvm hw hB3 hz3 hk3 hS => ?_)
    have hM := hM.at hk3 hmg
    have hLo := (hk3 ao (oA.lt hLo) hmo).trans hLo
    have hDo := (hk3 ad (oA.lt hDo) hmd).trans hDo
    rw [ht] at hB3
    obtain rfl := hw
    refine lv_iload hx hb dL_law_249 (lv_at hl 1 rfl) ?_
    refine lv_icmp_eq (tgt := 256) hx hb dL_law_251 rfl (fun _ => ?_) (fun h => absurd rfl h)
    refine lv_iload hx hb dL_law_256 (lv_at hl 1 rfl) ?_
    refine lv_if_ne (tgt := 273) hx hb dL_law_258 rfl (fun _ => ?_) (fun h => absurd h (by decide))
    refine lv_goto (tgt := 1485) hx hb dL_law_273 rfl ?_
    refine W.widen (k := cells + 3) (n := slots + 18) (by omega) (by omega) (kk _ _ _ ⟨ln, bf, z, (y.1, y.2.1, y.2.2.1, y.2.2.2), ke, hs, ms, 2, cd, _, _, hM, hB3, RZ_le hZ (by omega), RHs_le hR (by omega), hcd, hLo, hDo⟩ hS (lv_sub hl [2, 3, 4, 5, 6, 7] rfl))
set_option maxHeartbeats 4000000 in
set_option maxRecDepth 100000 in
theorem law_listen {p : Program} {l : Launch} {e : Env} {s : State} {m : MethodId} {below : List Frame} {meth : Method} {c : Code} {b L : Nat} {xs : Nat → Int32} {E : wE} {cL cD : ClassId} {g gm : Nat → Nat} {ao ad : Nat} (C : LC p l s m meth c b L xs E cL cD g gm ao ad) {n B : Nat} (hn : 4 * n + 4 ≤ L) (hB : B ≤ 60000) {H : Heap} {locs : List Loc} {cells slots : Nat} {ls : Array Slot} {Q : State → Prop} (hcl9 : cells + 3 ≤ 601024) (hsl9 : slots + 18 ≤ 7293034) (hI : LI E cL cD g gm ao ad B H) (hS : va_S (lwA s) s.heap H locs)
    (hl : lv_has ls 9 [(0, .ref b), (1, .ref (g 0)), (2, .ref (gm 0)), (3, .ref ao), (4, .ref ad), (5, .int (nI (4 * n)))])
    (kk : ∀ (H2 : Heap) (locs2 : List Loc) (ls2 : Array Slot), LI E cL cD g gm ao ad (B + 100) H2 → va_S (lwA s) s.heap H2 locs2 → lv_has ls2 9 [(0, .ref b), (1, .ref (g 0)), (2, .ref (gm 0)), (3, .ref ao), (4, .ref ad), (5, .int (nI (4 * n)))] → W p l e room_1 s m #[Value.ref b] below meth c H2 locs2 (cells + 3) (slots + 18) Q (F0 m 1485 ls2 [])) : W p l e room_1 s m #[Value.ref b] below meth c H locs cells slots Q (F0 m 276 ls []) := by
  have hx := C.hx
  have hb := C.hb
  have hml := C.hml
  have hown := C.hown
  have hts := C.hts
  have hX := C.hX
  have hbl := C.hbl
  have hst := C.hst
  have hL := C.hL
  have hK := C.hK
  have hKL := C.hKL
  have hxe := C.hxe
  have hxc := C.hxc
  obtain ⟨ln, bf, z, y, ke, hs, ms, th, cd, x0, d0, hM, hO, hZ, hR, hcd, hLo, hDo⟩ := hI
  have hzr := hM.rng
  have hAn : ∀ q, wF 6 gm q → lwA s q := by rintro q ⟨k, hk, rfl⟩; exact C.hAm k hk
  have hmg : ∀ k, k < 94 → ¬ wF 6 gm (g k) := by rintro k hk ⟨j, hj, e9⟩; exact C.ngm k j hk hj e9
  have hmo : ¬ wF 6 gm ao := by rintro ⟨j, hj, e9⟩; exact C.nmo j hj e9.symm
  have hmd : ¬ wF 6 gm ad := by rintro ⟨j, hj, e9⟩; exact C.nmd j hj e9.symm
  have hAw : ∀ q, wA g ao q → lwA s q := by
    rintro q (⟨k, hk, rfl⟩ | rfl)
    · exact C.hAg k hk
    · exact C.hAo
  have hwm : ∀ k, k < 6 → ¬ wA g ao (gm k) := by
    rintro k hk (⟨j, hj, e9⟩ | e9)
    · exact C.ngm j k hj hk e9.symm
    · exact C.nmo k hk e9
  have hwo : ¬ wA g ao ad := by
    rintro (⟨j, hj, e9⟩ | e9)
    · exact C.ngd j hj e9.symm
    · exact C.nod e9.symm
  obtain ⟨w1, hw1⟩ : ∃ w, xs (4 * n + 1) = w := ⟨_, rfl⟩
  obtain ⟨w2, hw2⟩ : ∃ w, xs (4 * n + 2) = w := ⟨_, rfl⟩
  refine lv_aload_n hx hb dL_law_276 rfl (lv_at hl 1 rfl) ?_
  refine sc_load hx hb hX hbl hS hL hn (j := 1) (by decide) hw1 (lv_at hl 0 rfl) (lv_at hl 5 rfl) (by decide) dL_law_277 dL_law_278 dL_law_280 dL_law_281 dL_law_282 ?_
  refine sc_load hx hb hX hbl hS hL hn (j := 2) (by decide) hw2 (lv_at hl 0 rfl) (lv_at hl 5 rfl) (by decide) dL_law_283 dL_law_284 dL_law_286 dL_law_287 dL_law_288 ?_
  refine lv_bool hx hb dL_law_289 dL_law_292 dL_law_293 dL_law_296 ?_
  refine lv_aload_n hx hb dL_law_297 rfl (lv_at hl 3 rfl) ?_
  refine va_calli (vx_runSW (As := [.ref (g 0), .int w1, .int (bI (decide (¬ w2 = 0))), .ref ao]) (rest := []) ⟨hx, hb, hml, hown, hts⟩ (c_L_listen l hst cL cD ao E g ln bf z ke hs w1 (decide (¬ w2 = 0))) (vx_cwSW 4 hts gL_law_L_listen rfl rfl rfl (by decide +kernel) ⟨Nat.le_of_ble_eq_true rfl, Nat.le_of_ble_eq_true rfl⟩) ⟨wL.blind, fun U hU hW => wL.go hM ⟨_, hLo⟩ hK hKL C.hI C.ngo hxe hxc hS hAw hU hW⟩ rfl rfl hl.1 rfl (lv_room (Nat.le_of_ble_eq_true rfl)) dL_law_298 ⟨Nat.le_trans (Nat.add_le_add_left (by decide) cells) hcl9, Nat.le_trans (Nat.add_le_add_left (by decide) slots) hsl9⟩) hS (fun q _ h => hAw q h) (fun q h => hAw q h) (fun r_1 u1 t H_1 locs_1 ht hvm hw hB1 hz1 hk1 hS => ?_)
  obtain rfl : r_1 = u1 := hw
  rw [ht] at hB1
  have hO := hO.at hk1 hwm
  have hDo := (hk1 ad hDo.lt hwo).trans hDo
  clear hLo hM
  rcases hB1 with ⟨rfl, hc, hLo, hM⟩ | ⟨rfl, hc, ⟨x1, hLo⟩, hM⟩
  · skip
    obtain ⟨uu, huu, rfl⟩ := i_in hc (by decide)
    have hcls : (nI uu).toNatClampNeg = uu := nI_clamp (by omega)
    simp only [hcls] at hM hLo
    refine lv_istore (lv' := [(6, .int 0), (0, .ref b), (1, .ref (g 0)), (2, .ref (gm 0)), (3, .ref ao), (4, .ref ad), (5, .int (nI (4 * n)))]) hx hb dL_law_301 hl (by decide) rfl (fun ls hl => ?_)
    refine lv_aload_n hx hb dL_law_303 rfl (lv_at hl 3 rfl) ?_
    refine sc_load hx hb hX hbl hS hL hn (j := 1) (by decide) hw1 (lv_at hl 1 rfl) (lv_at hl 6 rfl) (by decide) dL_law_304 dL_law_305 dL_law_307 dL_law_308 dL_law_309 ?_
    refine sc_load hx hb hX hbl hS hL hn (j := 2) (by decide) hw2 (lv_at hl 1 rfl) (lv_at hl 6 rfl) (by decide) dL_law_310 dL_law_311 dL_law_313 dL_law_314 dL_law_315 ?_
    refine lv_bool hx hb dL_law_316 dL_law_319 dL_law_320 dL_law_323 ?_
    refine va_calli (va_runV (As := [_, _]) (rest := []) ⟨hx, hb, hml, hown, hts⟩ (c_X6_listen_ok l E gm th ln bf y.1 y.2.1 y.2.2.1 y.2.2.2 ke ms uu huu (decide (¬ w2 = 0))) (cwV 2 hts gL_law_X6_listen rfl rfl rfl (by decide +kernel) ⟨Nat.le_of_ble_eq_true rfl, Nat.le_of_ble_eq_true rfl⟩) ⟨wS.blind, hO.recv hK, fun U hU hW => wS.go hO hK C.hIm hU hW⟩ rfl rfl hl.1 rfl (lv_room (Nat.le_of_ble_eq_true rfl)) dL_law_324 ⟨(by show cells + 1 + 0 ≤ 601024; omega), (by show slots + 6 + 0 ≤ 7293034; omega)⟩) hS (fun q _ h => hAn q h) (fun q h => hAn q h) (fun r_2 u2 t H_2 locs_2 ht hvm hw hB2 hz2 hk2 hS => ?_)
    have hM := hM.at hk2 hmg
    have hLo := (hk2 ao (oA.lt hLo) hmo).trans hLo
    have hDo := (hk2 ad (oA.lt hDo) hmd).trans hDo
    rw [ht] at hB2
    obtain rfl := hw
    refine lv_topi (fun r7 hr7 => ?_)
    refine lv_istore (lv' := [(7, .int r7), (6, .int 0), (0, .ref b), (1, .ref (g 0)), (2, .ref (gm 0)), (3, .ref ao), (4, .ref ad), (5, .int (nI (4 * n)))]) hx hb dL_law_327 hl (by decide) rfl (fun ls hl => ?_)
    refine lv_aload_n hx hb dL_law_329 rfl (lv_at hl 4 rfl) ?_
    refine va_calli (va_runV (As := []) (rest := []) ⟨hx, hb, hml, hown, hts⟩ (c_X6_thrown_ok l E gm 0 ln bf y.1 y.2.1 y.2.2.1 (va_up y.2.2.2 uu ((decide (¬ w2 = 0)), (y.2.2.2 uu).2)) (kpK ke) (pushM ke ms y)) (cwV 0 hts gL_law_X6_thrown rfl rfl rfl (by decide +kernel) ⟨Nat.le_of_ble_eq_true rfl, Nat.le_of_ble_eq_true rfl⟩) ⟨wS.blind, MOB.recv hK hB2, fun U hU hW => wS.go hB2 hK C.hIm hU hW⟩ rfl rfl hl.1 rfl (lv_room (Nat.le_of_ble_eq_true rfl)) dL_law_330 ⟨(by show cells + 1 + 0 + 0 ≤ 601024; omega), (by show slots + 6 + 0 + 0 ≤ 7293034; omega)⟩) hS (fun q _ h => hAn q h) (fun q h => hAn q h) (fun r_3 u3 t H_3 locs_3 ht hvm hw hB3 hz3 hk3 hS => ?_)
    have hM := hM.at hk3 hmg
    have hLo := (hk3 ao (oA.lt hLo) hmo).trans hLo
    have hDo := (hk3 ad (oA.lt hDo) hmd).trans hDo
    rw [ht] at hB3
    obtain rfl := hw
    refine lv_iload hx hb dL_law_333 (lv_at hl 1 rfl) ?_
    refine lv_icmp_eq (tgt := 340) hx hb dL_law_335 rfl (fun _ => ?_) (fun h => absurd rfl h)
    refine lv_iload hx hb dL_law_340 (lv_at hl 1 rfl) ?_
    refine lv_if_ne (tgt := 357) hx hb dL_law_342 rfl (fun h => absurd rfl h) (fun _ => ?_)
    have hLo := oA_eq hLo ((congrArg bI (a_li hZ huu)).trans hr7.symm)
    refine lv_aload_n hx hb dL_law_345 rfl (lv_at hl 5 rfl) ?_
    refine lv_iconst (v := 0) hx hb dL_law_346 (by decide) ?_
    refine w_lald hx hb hKL hLo dL_law_347 ?_
    refine lv_iload hx hb dL_law_348 (lv_at hl 0 rfl) ?_
    refine lv_i2l hx hb dL_law_350 rfl ?_
    refine W.lcmp hx hb dL_law_351 ?_
    rw [lg_same]
    refine lv_if_eq (tgt := 357) hx hb dL_law_352 rfl (fun _ => ?_) (fun h => absurd rfl h)
    refine lv_goto (tgt := 1485) hx hb dL_law_357 rfl ?_
    refine W.widen (k := cells + 3) (n := slots + 18) (by omega) (by omega) (kk _ _ _ ⟨ln, bf, (recvZ z uu ((decide (¬ w2 = 0)), (z.2.2.2 uu).2)), (y.1, y.2.1, y.2.2.1, (va_up y.2.2.2 uu ((decide (¬ w2 = 0)), (y.2.2.2 uu).2))), (kpK ke), (pushH ke hs z), (pushM ke ms y), 0, cd, _, _, hM, hB3, RZ_le (listen_mk hZ huu (decide (¬ w2 = 0))) (by omega), RHs_le (push_mk hzr.1 hR hZ) (by omega), hcd, hLo, hDo⟩ hS (lv_sub hl [2, 3, 4, 5, 6, 7] rfl))
  · skip
    refine lv_istore (lv' := [(6, .int 1), (0, .ref b), (1, .ref (g 0)), (2, .ref (gm 0)), (3, .ref ao), (4, .ref ad), (5, .int (nI (4 * n)))]) hx hb dL_law_301 hl (by decide) rfl (fun ls hl => ?_)
    refine lv_aload_n hx hb dL_law_303 rfl (lv_at hl 3 rfl) ?_
    refine sc_load hx hb hX hbl hS hL hn (j := 1) (by decide) hw1 (lv_at hl 1 rfl) (lv_at hl 6 rfl) (by decide) dL_law_304 dL_law_305 dL_law_307 dL_law_308 dL_law_309 ?_
    refine sc_load hx hb hX hbl hS hL hn (j := 2) (by decide) hw2 (lv_at hl 1 rfl) (lv_at hl 6 rfl) (by decide) dL_law_310 dL_law_311 dL_law_313 dL_law_314 dL_law_315 ?_
    refine lv_bool hx hb dL_law_316 dL_law_319 dL_law_320 dL_law_323 ?_
    refine va_calli (va_runV (As := [_, _]) (rest := []) ⟨hx, hb, hml, hown, hts⟩ (c_X6_listen_no l E gm th ln bf y.1 y.2.1 y.2.2.1 y.2.2.2 ke ms w1 (decide (¬ w2 = 0)) (inB_f (n := 3) rfl (by decide) (by decide) hc)) (cwV 2 hts gL_law_X6_listen rfl rfl rfl (by decide +kernel) ⟨Nat.le_of_ble_eq_true rfl, Nat.le_of_ble_eq_true rfl⟩) ⟨wS.blind, hO.recv hK, fun U hU hW => wS.go hO hK C.hIm hU hW⟩ rfl rfl hl.1 rfl (lv_room (Nat.le_of_ble_eq_true rfl)) dL_law_324 ⟨(by show cells + 1 + 0 ≤ 601024; omega), (by show slots + 6 + 0 ≤ 7293034; omega)⟩) hS (fun q _ h => hAn q h) (fun q h => hAn q h) (fun r_2 u2 t H_2 locs_2 ht hvm hw hB2 hz2 hk2 hS => ?_)
    have hM := hM.at hk2 hmg
    have hLo := (hk2 ao (oA.lt hLo) hmo).trans hLo
    have hDo := (hk2 ad (oA.lt hDo) hmd).trans hDo
    rw [ht] at hB2
    obtain rfl := hw
    refine lv_topi (fun r7 hr7 => ?_)
    refine lv_istore (lv' := [(7, .int r7), (6, .int 1), (0, .ref b), (1, .ref (g 0)), (2, .ref (gm 0)), (3, .ref ao), (4, .ref ad), (5, .int (nI (4 * n)))]) hx hb dL_law_327 hl (by decide) rfl (fun ls hl => ?_)
    refine lv_aload_n hx hb dL_law_329 rfl (lv_at hl 4 rfl) ?_
    refine va_calli (va_runV (As := []) (rest := []) ⟨hx, hb, hml, hown, hts⟩ (c_X6_thrown_ok l E gm 1 ln bf y.1 y.2.1 y.2.2.1 y.2.2.2 ke ms) (cwV 0 hts gL_law_X6_thrown rfl rfl rfl (by decide +kernel) ⟨Nat.le_of_ble_eq_true rfl, Nat.le_of_ble_eq_true rfl⟩) ⟨wS.blind, MOB.recv hK hB2, fun U hU hW => wS.go hB2 hK C.hIm hU hW⟩ rfl rfl hl.1 rfl (lv_room (Nat.le_of_ble_eq_true rfl)) dL_law_330 ⟨(by show cells + 1 + 0 + 0 ≤ 601024; omega), (by show slots + 6 + 0 + 0 ≤ 7293034; omega)⟩) hS (fun q _ h => hAn q h) (fun q h => hAn q h) (fun r_3 u3 t H_3 locs_3 ht hvm hw hB3 hz3 hk3 hS => ?_)
    have hM := hM.at hk3 hmg
    have hLo := (hk3 ao (oA.lt hLo) hmo).trans hLo
    have hDo := (hk3 ad (oA.lt hDo) hmd).trans hDo
    rw [ht] at hB3
    obtain rfl := hw
    refine lv_iload hx hb dL_law_333 (lv_at hl 1 rfl) ?_
    refine lv_icmp_eq (tgt := 340) hx hb dL_law_335 rfl (fun _ => ?_) (fun h => absurd rfl h)
    refine lv_iload hx hb dL_law_340 (lv_at hl 1 rfl) ?_
    refine lv_if_ne (tgt := 357) hx hb dL_law_342 rfl (fun _ => ?_) (fun h => absurd h (by decide))
    refine lv_goto (tgt := 1485) hx hb dL_law_357 rfl ?_
    refine W.widen (k := cells + 3) (n := slots + 18) (by omega) (by omega) (kk _ _ _ ⟨ln, bf, z, (y.1, y.2.1, y.2.2.1, y.2.2.2), ke, hs, ms, 1, cd, _, _, hM, hB3, RZ_le hZ (by omega), RHs_le hR (by omega), hcd, hLo, hDo⟩ hS (lv_sub hl [2, 3, 4, 5, 6, 7] rfl))
set_option maxHeartbeats 4000000 in
set_option maxRecDepth 100000 in
theorem law_forget {p : Program} {l : Launch} {e : Env} {s : State} {m : MethodId} {below : List Frame} {meth : Method} {c : Code} {b L : Nat} {xs : Nat → Int32} {E : wE} {cL cD : ClassId} {g gm : Nat → Nat} {ao ad : Nat} (C : LC p l s m meth c b L xs E cL cD g gm ao ad) {n B : Nat} (hn : 4 * n + 4 ≤ L) (hB : B ≤ 60000) {H : Heap} {locs : List Loc} {cells slots : Nat} {ls : Array Slot} {Q : State → Prop} (hcl9 : cells + 3 ≤ 601024) (hsl9 : slots + 18 ≤ 7293034) (hI : LI E cL cD g gm ao ad B H) (hS : va_S (lwA s) s.heap H locs)
    (hl : lv_has ls 9 [(0, .ref b), (1, .ref (g 0)), (2, .ref (gm 0)), (3, .ref ao), (4, .ref ad), (5, .int (nI (4 * n)))])
    (kk : ∀ (H2 : Heap) (locs2 : List Loc) (ls2 : Array Slot), LI E cL cD g gm ao ad (B + 100) H2 → va_S (lwA s) s.heap H2 locs2 → lv_has ls2 9 [(0, .ref b), (1, .ref (g 0)), (2, .ref (gm 0)), (3, .ref ao), (4, .ref ad), (5, .int (nI (4 * n)))] → W p l e room_1 s m #[Value.ref b] below meth c H2 locs2 (cells + 3) (slots + 18) Q (F0 m 1485 ls2 [])) : W p l e room_1 s m #[Value.ref b] below meth c H locs cells slots Q (F0 m 360 ls []) := by
  have hx := C.hx
  have hb := C.hb
  have hml := C.hml
  have hown := C.hown
  have hts := C.hts
  have hX := C.hX
  have hbl := C.hbl
  have hst := C.hst
  have hL := C.hL
  have hK := C.hK
  have hKL := C.hKL
  have hxe := C.hxe
  have hxc := C.hxc
  obtain ⟨ln, bf, z, y, ke, hs, ms, th, cd, x0, d0, hM, hO, hZ, hR, hcd, hLo, hDo⟩ := hI
  have hzr := hM.rng
  have hAn : ∀ q, wF 6 gm q → lwA s q := by rintro q ⟨k, hk, rfl⟩; exact C.hAm k hk
  have hmg : ∀ k, k < 94 → ¬ wF 6 gm (g k) := by rintro k hk ⟨j, hj, e9⟩; exact C.ngm k j hk hj e9
  have hmo : ¬ wF 6 gm ao := by rintro ⟨j, hj, e9⟩; exact C.nmo j hj e9.symm
  have hmd : ¬ wF 6 gm ad := by rintro ⟨j, hj, e9⟩; exact C.nmd j hj e9.symm
  have hAw : ∀ q, wA g ao q → lwA s q := by
    rintro q (⟨k, hk, rfl⟩ | rfl)
    · exact C.hAg k hk
    · exact C.hAo
  have hwm : ∀ k, k < 6 → ¬ wA g ao (gm k) := by
    rintro k hk (⟨j, hj, e9⟩ | e9)
    · exact C.ngm j k hj hk e9.symm
    · exact C.nmo k hk e9
  have hwo : ¬ wA g ao ad := by
    rintro (⟨j, hj, e9⟩ | e9)
    · exact C.ngd j hj e9.symm
    · exact C.nod e9.symm
  obtain ⟨w1, hw1⟩ : ∃ w, xs (4 * n + 1) = w := ⟨_, rfl⟩
  refine lv_aload_n hx hb dL_law_360 rfl (lv_at hl 1 rfl) ?_
  refine sc_load hx hb hX hbl hS hL hn (j := 1) (by decide) hw1 (lv_at hl 0 rfl) (lv_at hl 5 rfl) (by decide) dL_law_361 dL_law_362 dL_law_364 dL_law_365 dL_law_366 ?_
  refine lv_aload_n hx hb dL_law_367 rfl (lv_at hl 3 rfl) ?_
  refine va_calli (vx_runSW (As := [.ref (g 0), .int w1, .ref ao]) (rest := []) ⟨hx, hb, hml, hown, hts⟩ (c_L_forget l hst cL cD ao E g ln bf z ke hs w1) (vx_cwSW 3 hts gL_law_L_forget rfl rfl rfl (by decide +kernel) ⟨Nat.le_of_ble_eq_true rfl, Nat.le_of_ble_eq_true rfl⟩) ⟨wL.blind, fun U hU hW => wL.go hM ⟨_, hLo⟩ hK hKL C.hI C.ngo hxe hxc hS hAw hU hW⟩ rfl rfl hl.1 rfl (lv_room (Nat.le_of_ble_eq_true rfl)) dL_law_368 ⟨Nat.le_trans (Nat.add_le_add_left (by decide) cells) hcl9, Nat.le_trans (Nat.add_le_add_left (by decide) slots) hsl9⟩) hS (fun q _ h => hAw q h) (fun q h => hAw q h) (fun r_1 u1 t H_1 locs_1 ht hvm hw hB1 hz1 hk1 hS => ?_)
  obtain rfl : r_1 = u1 := hw
  rw [ht] at hB1
  have hO := hO.at hk1 hwm
  have hDo := (hk1 ad hDo.lt hwo).trans hDo
  clear hLo hM
  rcases hB1 with ⟨rfl, hc, hLo, hM⟩ | ⟨rfl, hc, ⟨x1, hLo⟩, hM⟩
  · skip
    obtain ⟨uu, huu, rfl⟩ := i_in hc (by decide)
    have hcls : (nI uu).toNatClampNeg = uu := nI_clamp (by omega)
    simp only [hcls] at hM hLo
    refine lv_istore (lv' := [(6, .int 0), (0, .ref b), (1, .ref (g 0)), (2, .ref (gm 0)), (3, .ref ao), (4, .ref ad), (5, .int (nI (4 * n)))]) hx hb dL_law_371 hl (by decide) rfl (fun ls hl => ?_)
    refine lv_aload_n hx hb dL_law_373 rfl (lv_at hl 3 rfl) ?_
    refine sc_load hx hb hX hbl hS hL hn (j := 1) (by decide) hw1 (lv_at hl 1 rfl) (lv_at hl 6 rfl) (by decide) dL_law_374 dL_law_375 dL_law_377 dL_law_378 dL_law_379 ?_
    refine va_calli (va_runV (As := [_]) (rest := []) ⟨hx, hb, hml, hown, hts⟩ (c_X6_forget_ok l E gm th ln bf y.1 y.2.1 y.2.2.1 y.2.2.2 ke ms uu huu) (cwV 1 hts gL_law_X6_forget rfl rfl rfl (by decide +kernel) ⟨Nat.le_of_ble_eq_true rfl, Nat.le_of_ble_eq_true rfl⟩) ⟨wS.blind, hO.recv hK, fun U hU hW => wS.go hO hK C.hIm hU hW⟩ rfl rfl hl.1 rfl (lv_room (Nat.le_of_ble_eq_true rfl)) dL_law_380 ⟨(by show cells + 1 + 0 ≤ 601024; omega), (by show slots + 6 + 0 ≤ 7293034; omega)⟩) hS (fun q _ h => hAn q h) (fun q h => hAn q h) (fun r_2 u2 t H_2 locs_2 ht hvm hw hB2 hz2 hk2 hS => ?_)
    have hM := hM.at hk2 hmg
    have hLo := (hk2 ao (oA.lt hLo) hmo).trans hLo
    have hDo := (hk2 ad (oA.lt hDo) hmd).trans hDo
    rw [ht] at hB2
    obtain rfl := hw
    refine lv_topi (fun r7 hr7 => ?_)
    refine lv_istore (lv' := [(7, .int r7), (6, .int 0), (0, .ref b), (1, .ref (g 0)), (2, .ref (gm 0)), (3, .ref ao), (4, .ref ad), (5, .int (nI (4 * n)))]) hx hb dL_law_383 hl (by decide) rfl (fun ls hl => ?_)
    refine lv_aload_n hx hb dL_law_385 rfl (lv_at hl 4 rfl) ?_
    refine va_calli (va_runV (As := []) (rest := []) ⟨hx, hb, hml, hown, hts⟩ (c_X6_thrown_ok l E gm 0 ln bf y.1 y.2.1 y.2.2.1 (va_up y.2.2.2 uu (fgM (y.2.2.2 uu))) (kpK ke) (pushM ke ms y)) (cwV 0 hts gL_law_X6_thrown rfl rfl rfl (by decide +kernel) ⟨Nat.le_of_ble_eq_true rfl, Nat.le_of_ble_eq_true rfl⟩) ⟨wS.blind, MOB.recv hK hB2, fun U hU hW => wS.go hB2 hK C.hIm hU hW⟩ rfl rfl hl.1 rfl (lv_room (Nat.le_of_ble_eq_true rfl)) dL_law_386 ⟨(by show cells + 1 + 0 + 0 ≤ 601024; omega), (by show slots + 6 + 0 + 0 ≤ 7293034; omega)⟩) hS (fun q _ h => hAn q h) (fun q h => hAn q h) (fun r_3 u3 t H_3 locs_3 ht hvm hw hB3 hz3 hk3 hS => ?_)
    have hM := hM.at hk3 hmg
    have hLo := (hk3 ao (oA.lt hLo) hmo).trans hLo
    have hDo := (hk3 ad (oA.lt hDo) hmd).trans hDo
    rw [ht] at hB3
    obtain rfl := hw
    refine lv_iload hx hb dL_law_389 (lv_at hl 1 rfl) ?_
    refine lv_icmp_eq (tgt := 396) hx hb dL_law_391 rfl (fun _ => ?_) (fun h => absurd rfl h)
    refine lv_iload hx hb dL_law_396 (lv_at hl 1 rfl) ?_
    refine lv_if_ne (tgt := 413) hx hb dL_law_398 rfl (fun h => absurd rfl h) (fun _ => ?_)
    have hLo := oA_eq hLo ((a_forget hZ huu).trans hr7.symm)
    refine lv_aload_n hx hb dL_law_401 rfl (lv_at hl 5 rfl) ?_
    refine lv_iconst (v := 0) hx hb dL_law_402 (by decide) ?_
    refine w_lald hx hb hKL hLo dL_law_403 ?_
    refine lv_iload hx hb dL_law_404 (lv_at hl 0 rfl) ?_
    refine lv_i2l hx hb dL_law_406 rfl ?_
    refine W.lcmp hx hb dL_law_407 ?_
    rw [lg_same]
    refine lv_if_eq (tgt := 413) hx hb dL_law_408 rfl (fun _ => ?_) (fun h => absurd rfl h)
    refine lv_goto (tgt := 1485) hx hb dL_law_413 rfl ?_
    refine W.widen (k := cells + 3) (n := slots + 18) (by omega) (by omega) (kk _ _ _ ⟨ln, bf, (recvZ z uu (fgR (z.2.2.2 uu))), (y.1, y.2.1, y.2.2.1, (va_up y.2.2.2 uu (fgM (y.2.2.2 uu)))), (kpK ke), (pushH ke hs z), (pushM ke ms y), 0, cd, _, _, hM, hB3, RZ_le (forget1_mk hZ huu) (by omega), RHs_le (push_mk hzr.1 hR hZ) (by omega), hcd, hLo, hDo⟩ hS (lv_sub hl [2, 3, 4, 5, 6, 7] rfl))
  · skip
    refine lv_istore (lv' := [(6, .int 1), (0, .ref b), (1, .ref (g 0)), (2, .ref (gm 0)), (3, .ref ao), (4, .ref ad), (5, .int (nI (4 * n)))]) hx hb dL_law_371 hl (by decide) rfl (fun ls hl => ?_)
    refine lv_aload_n hx hb dL_law_373 rfl (lv_at hl 3 rfl) ?_
    refine sc_load hx hb hX hbl hS hL hn (j := 1) (by decide) hw1 (lv_at hl 1 rfl) (lv_at hl 6 rfl) (by decide) dL_law_374 dL_law_375 dL_law_377 dL_law_378 dL_law_379 ?_
    refine va_calli (va_runV (As := [_]) (rest := []) ⟨hx, hb, hml, hown, hts⟩ (c_X6_forget_no l E gm th ln bf y.1 y.2.1 y.2.2.1 y.2.2.2 ke ms w1 (inB_f (n := 3) rfl (by decide) (by decide) hc)) (cwV 1 hts gL_law_X6_forget rfl rfl rfl (by decide +kernel) ⟨Nat.le_of_ble_eq_true rfl, Nat.le_of_ble_eq_true rfl⟩) ⟨wS.blind, hO.recv hK, fun U hU hW => wS.go hO hK C.hIm hU hW⟩ rfl rfl hl.1 rfl (lv_room (Nat.le_of_ble_eq_true rfl)) dL_law_380 ⟨(by show cells + 1 + 0 ≤ 601024; omega), (by show slots + 6 + 0 ≤ 7293034; omega)⟩) hS (fun q _ h => hAn q h) (fun q h => hAn q h) (fun r_2 u2 t H_2 locs_2 ht hvm hw hB2 hz2 hk2 hS => ?_)
    have hM := hM.at hk2 hmg
    have hLo := (hk2 ao (oA.lt hLo) hmo).trans hLo
    have hDo := (hk2 ad (oA.lt hDo) hmd).trans hDo
    rw [ht] at hB2
    obtain rfl := hw
    refine lv_topi (fun r7 hr7 => ?_)
    refine lv_istore (lv' := [(7, .int r7), (6, .int 1), (0, .ref b), (1, .ref (g 0)), (2, .ref (gm 0)), (3, .ref ao), (4, .ref ad), (5, .int (nI (4 * n)))]) hx hb dL_law_383 hl (by decide) rfl (fun ls hl => ?_)
    refine lv_aload_n hx hb dL_law_385 rfl (lv_at hl 4 rfl) ?_
    refine va_calli (va_runV (As := []) (rest := []) ⟨hx, hb, hml, hown, hts⟩ (c_X6_thrown_ok l E gm 1 ln bf y.1 y.2.1 y.2.2.1 y.2.2.2 ke ms) (cwV 0 hts gL_law_X6_thrown rfl rfl rfl (by decide +kernel) ⟨Nat.le_of_ble_eq_true rfl, Nat.le_of_ble_eq_true rfl⟩) ⟨wS.blind, MOB.recv hK hB2, fun U hU hW => wS.go hB2 hK C.hIm hU hW⟩ rfl rfl hl.1 rfl (lv_room (Nat.le_of_ble_eq_true rfl)) dL_law_386 ⟨(by show cells + 1 + 0 + 0 ≤ 601024; omega), (by show slots + 6 + 0 + 0 ≤ 7293034; omega)⟩) hS (fun q _ h => hAn q h) (fun q h => hAn q h) (fun r_3 u3 t H_3 locs_3 ht hvm hw hB3 hz3 hk3 hS => ?_)
    have hM := hM.at hk3 hmg
    have hLo := (hk3 ao (oA.lt hLo) hmo).trans hLo
    have hDo := (hk3 ad (oA.lt hDo) hmd).trans hDo
    rw [ht] at hB3
    obtain rfl := hw
    refine lv_iload hx hb dL_law_389 (lv_at hl 1 rfl) ?_
    refine lv_icmp_eq (tgt := 396) hx hb dL_law_391 rfl (fun _ => ?_) (fun h => absurd rfl h)
    refine lv_iload hx hb dL_law_396 (lv_at hl 1 rfl) ?_
    refine lv_if_ne (tgt := 413) hx hb dL_law_398 rfl (fun _ => ?_) (fun h => absurd h (by decide))
    refine lv_goto (tgt := 1485) hx hb dL_law_413 rfl ?_
    refine W.widen (k := cells + 3) (n := slots + 18) (by omega) (by omega) (kk _ _ _ ⟨ln, bf, z, (y.1, y.2.1, y.2.2.1, y.2.2.2), ke, hs, ms, 1, cd, _, _, hM, hB3, RZ_le hZ (by omega), RHs_le hR (by omega), hcd, hLo, hDo⟩ hS (lv_sub hl [2, 3, 4, 5, 6, 7] rfl))
set_option maxHeartbeats 4000000 in
set_option maxRecDepth 100000 in
theorem law_send {p : Program} {l : Launch} {e : Env} {s : State} {m : MethodId} {below : List Frame} {meth : Method} {c : Code} {b L : Nat} {xs : Nat → Int32} {E : wE} {cL cD : ClassId} {g gm : Nat → Nat} {ao ad : Nat} (C : LC p l s m meth c b L xs E cL cD g gm ao ad) {n B : Nat} (hn : 4 * n + 4 ≤ L) (hB : B ≤ 60000) {H : Heap} {locs : List Loc} {cells slots : Nat} {ls : Array Slot} {Q : State → Prop} (hcl9 : cells + 3 ≤ 601024) (hsl9 : slots + 18 ≤ 7293034) (hI : LI E cL cD g gm ao ad B H) (hS : va_S (lwA s) s.heap H locs)
    (hl : lv_has ls 9 [(0, .ref b), (1, .ref (g 0)), (2, .ref (gm 0)), (3, .ref ao), (4, .ref ad), (5, .int (nI (4 * n)))])
    (kk : ∀ (H2 : Heap) (locs2 : List Loc) (ls2 : Array Slot), LI E cL cD g gm ao ad (B + 100) H2 → va_S (lwA s) s.heap H2 locs2 → lv_has ls2 9 [(0, .ref b), (1, .ref (g 0)), (2, .ref (gm 0)), (3, .ref ao), (4, .ref ad), (5, .int (nI (4 * n)))] → W p l e room_1 s m #[Value.ref b] below meth c H2 locs2 (cells + 3) (slots + 18) Q (F0 m 1485 ls2 [])) : W p l e room_1 s m #[Value.ref b] below meth c H locs cells slots Q (F0 m 416 ls []) := by
  have hx := C.hx
  have hb := C.hb
  have hml := C.hml
  have hown := C.hown
  have hts := C.hts
  have hX := C.hX
  have hbl := C.hbl
  have hst := C.hst
  have hL := C.hL
  have hK := C.hK
  have hKL := C.hKL
  have hxe := C.hxe
  have hxc := C.hxc
  obtain ⟨ln, bf, z, y, ke, hs, ms, th, cd, x0, d0, hM, hO, hZ, hR, hcd, hLo, hDo⟩ := hI
  have hzr := hM.rng
  have hAn : ∀ q, wF 6 gm q → lwA s q := by rintro q ⟨k, hk, rfl⟩; exact C.hAm k hk
  have hmg : ∀ k, k < 94 → ¬ wF 6 gm (g k) := by rintro k hk ⟨j, hj, e9⟩; exact C.ngm k j hk hj e9
  have hmo : ¬ wF 6 gm ao := by rintro ⟨j, hj, e9⟩; exact C.nmo j hj e9.symm
  have hmd : ¬ wF 6 gm ad := by rintro ⟨j, hj, e9⟩; exact C.nmd j hj e9.symm
  have hAw : ∀ q, wA g ao q → lwA s q := by
    rintro q (⟨k, hk, rfl⟩ | rfl)
    · exact C.hAg k hk
    · exact C.hAo
  have hwm : ∀ k, k < 6 → ¬ wA g ao (gm k) := by
    rintro k hk (⟨j, hj, e9⟩ | e9)
    · exact C.ngm j k hj hk e9.symm
    · exact C.nmo k hk e9
  have hwo : ¬ wA g ao ad := by
    rintro (⟨j, hj, e9⟩ | e9)
    · exact C.ngd j hj e9.symm
    · exact C.nod e9.symm
  obtain ⟨w1, hw1⟩ : ∃ w, xs (4 * n + 1) = w := ⟨_, rfl⟩
  refine lv_aload_n hx hb dL_law_416 rfl (lv_at hl 1 rfl) ?_
  refine sc_load hx hb hX hbl hS hL hn (j := 1) (by decide) hw1 (lv_at hl 0 rfl) (lv_at hl 5 rfl) (by decide) dL_law_417 dL_law_418 dL_law_420 dL_law_421 dL_law_422 ?_
  refine lv_aload_n hx hb dL_law_423 rfl (lv_at hl 3 rfl) ?_
  refine va_calli (vx_runSW (As := [.ref (g 0), .int w1, .ref ao]) (rest := []) ⟨hx, hb, hml, hown, hts⟩ (c_L_send l hst cL cD ao E g ln bf z ke hs w1) (vx_cwSW 3 hts gL_law_L_send rfl rfl rfl (by decide +kernel) ⟨Nat.le_of_ble_eq_true rfl, Nat.le_of_ble_eq_true rfl⟩) ⟨wL.blind, fun U hU hW => wL.go hM ⟨_, hLo⟩ hK hKL C.hI C.ngo hxe hxc hS hAw hU hW⟩ rfl rfl hl.1 rfl (lv_room (Nat.le_of_ble_eq_true rfl)) dL_law_424 ⟨Nat.le_trans (Nat.add_le_add_left (by decide) cells) hcl9, Nat.le_trans (Nat.add_le_add_left (by decide) slots) hsl9⟩) hS (fun q _ h => hAw q h) (fun q h => hAw q h) (fun r_1 u1 t H_1 locs_1 ht hvm hw hB1 hz1 hk1 hS => ?_)
  obtain rfl : r_1 = u1 := hw
  rw [ht] at hB1
  have hO := hO.at hk1 hwm
  have hDo := (hk1 ad hDo.lt hwo).trans hDo
  clear hLo hM
  rcases hB1 with ⟨rfl, hc, hLo, hM⟩ | ⟨rfl, hc, ⟨x1, hLo⟩, hM⟩
  · skip
    obtain ⟨k0, hk0, rfl⟩ := i_in hc (by decide)
    have hcls : (nI k0).toNatClampNeg = k0 := nI_clamp (by omega)
    simp only [hcls] at hM hLo
    refine lv_istore (lv' := [(6, .int 0), (0, .ref b), (1, .ref (g 0)), (2, .ref (gm 0)), (3, .ref ao), (4, .ref ad), (5, .int (nI (4 * n)))]) hx hb dL_law_427 hl (by decide) rfl (fun ls hl => ?_)
    refine lv_aload_n hx hb dL_law_429 rfl (lv_at hl 3 rfl) ?_
    refine sc_load hx hb hX hbl hS hL hn (j := 1) (by decide) hw1 (lv_at hl 1 rfl) (lv_at hl 6 rfl) (by decide) dL_law_430 dL_law_431 dL_law_433 dL_law_434 dL_law_435 ?_
    refine va_calli (va_runV (As := [_]) (rest := []) ⟨hx, hb, hml, hown, hts⟩ (c_X6_send_ok l E gm th ln bf y.1 y.2.1 y.2.2.1 y.2.2.2 ke ms k0 hk0) (cwV 1 hts gL_law_X6_send rfl rfl rfl (by decide +kernel) ⟨Nat.le_of_ble_eq_true rfl, Nat.le_of_ble_eq_true rfl⟩) ⟨wS.blind, hO.recv hK, fun U hU hW => wS.go hO hK C.hIm hU hW⟩ rfl rfl hl.1 rfl (lv_room (Nat.le_of_ble_eq_true rfl)) dL_law_436 ⟨(by show cells + 1 + 0 ≤ 601024; omega), (by show slots + 6 + 0 ≤ 7293034; omega)⟩) hS (fun q _ h => hAn q h) (fun q h => hAn q h) (fun r_2 u2 t H_2 locs_2 ht hvm hw hB2 hz2 hk2 hS => ?_)
    have hM := hM.at hk2 hmg
    have hLo := (hk2 ao (oA.lt hLo) hmo).trans hLo
    have hDo := (hk2 ad (oA.lt hDo) hmd).trans hDo
    rw [ht] at hB2
    obtain rfl := hw
    refine lv_topi (fun r7 hr7 => ?_)
    refine lv_istore (lv' := [(7, .int r7), (6, .int 0), (0, .ref b), (1, .ref (g 0)), (2, .ref (gm 0)), (3, .ref ao), (4, .ref ad), (5, .int (nI (4 * n)))]) hx hb dL_law_439 hl (by decide) rfl (fun ls hl => ?_)
    refine lv_aload_n hx hb dL_law_441 rfl (lv_at hl 4 rfl) ?_
    refine va_calli (va_runV (As := []) (rest := []) ⟨hx, hb, hml, hown, hts⟩ (c_X6_thrown_ok l E gm 0 ln bf y.1 y.2.1 (y.2.2.1 + 1) (mapQ (gotM (mskM y.1 k0)) y.2.2.2 3) (kpK ke) (pushM ke ms y)) (cwV 0 hts gL_law_X6_thrown rfl rfl rfl (by decide +kernel) ⟨Nat.le_of_ble_eq_true rfl, Nat.le_of_ble_eq_true rfl⟩) ⟨wS.blind, MOB.recv hK hB2, fun U hU hW => wS.go hB2 hK C.hIm hU hW⟩ rfl rfl hl.1 rfl (lv_room (Nat.le_of_ble_eq_true rfl)) dL_law_442 ⟨(by show cells + 1 + 0 + 0 ≤ 601024; omega), (by show slots + 6 + 0 + 0 ≤ 7293034; omega)⟩) hS (fun q _ h => hAn q h) (fun q h => hAn q h) (fun r_3 u3 t H_3 locs_3 ht hvm hw hB3 hz3 hk3 hS => ?_)
    have hM := hM.at hk3 hmg
    have hLo := (hk3 ao (oA.lt hLo) hmo).trans hLo
    have hDo := (hk3 ad (oA.lt hDo) hmd).trans hDo
    rw [ht] at hB3
    obtain rfl := hw
    refine lv_iload hx hb dL_law_445 (lv_at hl 1 rfl) ?_
    refine lv_icmp_eq (tgt := 452) hx hb dL_law_447 rfl (fun _ => ?_) (fun h => absurd rfl h)
    refine lv_iload hx hb dL_law_452 (lv_at hl 1 rfl) ?_
    refine lv_if_ne (tgt := 469) hx hb dL_law_454 rfl (fun h => absurd rfl h) (fun _ => ?_)
    have hLo := oA_eq hLo (((send_mk hZ k0).2).trans hr7.symm)
    refine lv_aload_n hx hb dL_law_457 rfl (lv_at hl 5 rfl) ?_
    refine lv_iconst (v := 0) hx hb dL_law_458 (by decide) ?_
    refine w_lald hx hb hKL hLo dL_law_459 ?_
    refine lv_iload hx hb dL_law_460 (lv_at hl 0 rfl) ?_
    refine lv_i2l hx hb dL_law_462 rfl ?_
    refine W.lcmp hx hb dL_law_463 ?_
    rw [lg_same]
    refine lv_if_eq (tgt := 469) hx hb dL_law_464 rfl (fun _ => ?_) (fun h => absurd rfl h)
    refine lv_goto (tgt := 1485) hx hb dL_law_469 rfl ?_
    refine W.widen (k := cells + 3) (n := slots + 18) (by omega) (by omega) (kk _ _ _ ⟨ln, bf, (sendZ z k0), (y.1, y.2.1, (y.2.2.1 + 1), (mapQ (gotM (mskM y.1 k0)) y.2.2.2 3)), (kpK ke), (pushH ke hs z), (pushM ke ms y), 0, cd, _, _, hM, hB3, RZ_le (send_mk hZ k0).1 (by omega), RHs_le (push_mk hzr.1 hR hZ) (by omega), hcd, hLo, hDo⟩ hS (lv_sub hl [2, 3, 4, 5, 6, 7] rfl))
  · skip
    refine lv_istore (lv' := [(6, .int 1), (0, .ref b), (1, .ref (g 0)), (2, .ref (gm 0)), (3, .ref ao), (4, .ref ad), (5, .int (nI (4 * n)))]) hx hb dL_law_427 hl (by decide) rfl (fun ls hl => ?_)
    refine lv_aload_n hx hb dL_law_429 rfl (lv_at hl 3 rfl) ?_
    refine sc_load hx hb hX hbl hS hL hn (j := 1) (by decide) hw1 (lv_at hl 1 rfl) (lv_at hl 6 rfl) (by decide) dL_law_430 dL_law_431 dL_law_433 dL_law_434 dL_law_435 ?_
    refine va_calli (va_runV (As := [_]) (rest := []) ⟨hx, hb, hml, hown, hts⟩ (c_X6_send_no l E gm th ln bf y.1 y.2.1 y.2.2.1 y.2.2.2 ke ms w1 (inB_f (n := 10000) rfl (by decide) (by decide) hc)) (cwV 1 hts gL_law_X6_send rfl rfl rfl (by decide +kernel) ⟨Nat.le_of_ble_eq_true rfl, Nat.le_of_ble_eq_true rfl⟩) ⟨wS.blind, hO.recv hK, fun U hU hW => wS.go hO hK C.hIm hU hW⟩ rfl rfl hl.1 rfl (lv_room (Nat.le_of_ble_eq_true rfl)) dL_law_436 ⟨(by show cells + 1 + 0 ≤ 601024; omega), (by show slots + 6 + 0 ≤ 7293034; omega)⟩) hS (fun q _ h => hAn q h) (fun q h => hAn q h) (fun r_2 u2 t H_2 locs_2 ht hvm hw hB2 hz2 hk2 hS => ?_)
    have hM := hM.at hk2 hmg
    have hLo := (hk2 ao (oA.lt hLo) hmo).trans hLo
    have hDo := (hk2 ad (oA.lt hDo) hmd).trans hDo
    rw [ht] at hB2
    obtain rfl := hw
    refine lv_topi (fun r7 hr7 => ?_)
    refine lv_istore (lv' := [(7, .int r7), (6, .int 1), (0, .ref b), (1, .ref (g 0)), (2, .ref (gm 0)), (3, .ref ao), (4, .ref ad), (5, .int (nI (4 * n)))]) hx hb dL_law_439 hl (by decide) rfl (fun ls hl => ?_)
    refine lv_aload_n hx hb dL_law_441 rfl (lv_at hl 4 rfl) ?_
    refine va_calli (va_runV (As := []) (rest := []) ⟨hx, hb, hml, hown, hts⟩ (c_X6_thrown_ok l E gm 1 ln bf y.1 y.2.1 y.2.2.1 y.2.2.2 ke ms) (cwV 0 hts gL_law_X6_thrown rfl rfl rfl (by decide +kernel) ⟨Nat.le_of_ble_eq_true rfl, Nat.le_of_ble_eq_true rfl⟩) ⟨wS.blind, MOB.recv hK hB2, fun U hU hW => wS.go hB2 hK C.hIm hU hW⟩ rfl rfl hl.1 rfl (lv_room (Nat.le_of_ble_eq_true rfl)) dL_law_442 ⟨(by show cells + 1 + 0 + 0 ≤ 601024; omega), (by show slots + 6 + 0 + 0 ≤ 7293034; omega)⟩) hS (fun q _ h => hAn q h) (fun q h => hAn q h) (fun r_3 u3 t H_3 locs_3 ht hvm hw hB3 hz3 hk3 hS => ?_)
    have hM := hM.at hk3 hmg
    have hLo := (hk3 ao (oA.lt hLo) hmo).trans hLo
    have hDo := (hk3 ad (oA.lt hDo) hmd).trans hDo
    rw [ht] at hB3
    obtain rfl := hw
    refine lv_iload hx hb dL_law_445 (lv_at hl 1 rfl) ?_
    refine lv_icmp_eq (tgt := 452) hx hb dL_law_447 rfl (fun _ => ?_) (fun h => absurd rfl h)
    refine lv_iload hx hb dL_law_452 (lv_at hl 1 rfl) ?_
    refine lv_if_ne (tgt := 469) hx hb dL_law_454 rfl (fun _ => ?_) (fun h => absurd h (by decide))
    refine lv_goto (tgt := 1485) hx hb dL_law_469 rfl ?_
    refine W.widen (k := cells + 3) (n := slots + 18) (by omega) (by omega) (kk _ _ _ ⟨ln, bf, z, (y.1, y.2.1, y.2.2.1, y.2.2.2), ke, hs, ms, 1, cd, _, _, hM, hB3, RZ_le hZ (by omega), RHs_le hR (by omega), hcd, hLo, hDo⟩ hS (lv_sub hl [2, 3, 4, 5, 6, 7] rfl))
set_option maxHeartbeats 4000000 in
set_option maxRecDepth 100000 in
theorem law_eliminate {p : Program} {l : Launch} {e : Env} {s : State} {m : MethodId} {below : List Frame} {meth : Method} {c : Code} {b L : Nat} {xs : Nat → Int32} {E : wE} {cL cD : ClassId} {g gm : Nat → Nat} {ao ad : Nat} (C : LC p l s m meth c b L xs E cL cD g gm ao ad) {n B : Nat} (hn : 4 * n + 4 ≤ L) (hB : B ≤ 60000) {H : Heap} {locs : List Loc} {cells slots : Nat} {ls : Array Slot} {Q : State → Prop} (hcl9 : cells + 3 ≤ 601024) (hsl9 : slots + 18 ≤ 7293034) (hI : LI E cL cD g gm ao ad B H) (hS : va_S (lwA s) s.heap H locs)
    (hl : lv_has ls 9 [(0, .ref b), (1, .ref (g 0)), (2, .ref (gm 0)), (3, .ref ao), (4, .ref ad), (5, .int (nI (4 * n)))])
    (kk : ∀ (H2 : Heap) (locs2 : List Loc) (ls2 : Array Slot), LI E cL cD g gm ao ad (B + 100) H2 → va_S (lwA s) s.heap H2 locs2 → lv_has ls2 9 [(0, .ref b), (1, .ref (g 0)), (2, .ref (gm 0)), (3, .ref ao), (4, .ref ad), (5, .int (nI (4 * n)))] → W p l e room_1 s m #[Value.ref b] below meth c H2 locs2 (cells + 3) (slots + 18) Q (F0 m 1485 ls2 [])) : W p l e room_1 s m #[Value.ref b] below meth c H locs cells slots Q (F0 m 472 ls []) := by
  have hx := C.hx
  have hb := C.hb
  have hml := C.hml
  have hown := C.hown
  have hts := C.hts
  have hX := C.hX
  have hbl := C.hbl
  have hst := C.hst
  have hL := C.hL
  have hK := C.hK
  have hKL := C.hKL
  have hxe := C.hxe
  have hxc := C.hxc
  obtain ⟨ln, bf, z, y, ke, hs, ms, th, cd, x0, d0, hM, hO, hZ, hR, hcd, hLo, hDo⟩ := hI
  have hzr := hM.rng
  have hAn : ∀ q, wF 6 gm q → lwA s q := by rintro q ⟨k, hk, rfl⟩; exact C.hAm k hk
  have hmg : ∀ k, k < 94 → ¬ wF 6 gm (g k) := by rintro k hk ⟨j, hj, e9⟩; exact C.ngm k j hk hj e9
  have hmo : ¬ wF 6 gm ao := by rintro ⟨j, hj, e9⟩; exact C.nmo j hj e9.symm
  have hmd : ¬ wF 6 gm ad := by rintro ⟨j, hj, e9⟩; exact C.nmd j hj e9.symm
  have hAw : ∀ q, wA g ao q → lwA s q := by
    rintro q (⟨k, hk, rfl⟩ | rfl)
    · exact C.hAg k hk
    · exact C.hAo
  have hwm : ∀ k, k < 6 → ¬ wA g ao (gm k) := by
    rintro k hk (⟨j, hj, e9⟩ | e9)
    · exact C.ngm j k hj hk e9.symm
    · exact C.nmo k hk e9
  have hwo : ¬ wA g ao ad := by
    rintro (⟨j, hj, e9⟩ | e9)
    · exact C.ngd j hj e9.symm
    · exact C.nod e9.symm
  obtain ⟨w1, hw1⟩ : ∃ w, xs (4 * n + 1) = w := ⟨_, rfl⟩
  refine lv_aload_n hx hb dL_law_472 rfl (lv_at hl 1 rfl) ?_
  refine sc_load hx hb hX hbl hS hL hn (j := 1) (by decide) hw1 (lv_at hl 0 rfl) (lv_at hl 5 rfl) (by decide) dL_law_473 dL_law_474 dL_law_476 dL_law_477 dL_law_478 ?_
  refine lv_aload_n hx hb dL_law_479 rfl (lv_at hl 3 rfl) ?_
  refine va_calli (vx_runSW (As := [.ref (g 0), .int w1, .ref ao]) (rest := []) ⟨hx, hb, hml, hown, hts⟩ (c_L_eliminate l hst cL cD ao E g ln bf z ke hs w1) (vx_cwSW 3 hts gL_law_L_eliminate rfl rfl rfl (by decide +kernel) ⟨Nat.le_of_ble_eq_true rfl, Nat.le_of_ble_eq_true rfl⟩) ⟨wL.blind, fun U hU hW => wL.go hM ⟨_, hLo⟩ hK hKL C.hI C.ngo hxe hxc hS hAw hU hW⟩ rfl rfl hl.1 rfl (lv_room (Nat.le_of_ble_eq_true rfl)) dL_law_480 ⟨Nat.le_trans (Nat.add_le_add_left (by decide) cells) hcl9, Nat.le_trans (Nat.add_le_add_left (by decide) slots) hsl9⟩) hS (fun q _ h => hAw q h) (fun q h => hAw q h) (fun r_1 u1 t H_1 locs_1 ht hvm hw hB1 hz1 hk1 hS => ?_)
  obtain rfl : r_1 = u1 := hw
  rw [ht] at hB1
  have hO := hO.at hk1 hwm
  have hDo := (hk1 ad hDo.lt hwo).trans hDo
  clear hLo hM
  rcases hB1 with ⟨rfl, hc, hLo, hM⟩ | ⟨rfl, hc, ⟨x1, hLo⟩, hM⟩
  · skip
    obtain ⟨uu, huu, rfl⟩ := i_in hc (by decide)
    have hcls : (nI uu).toNatClampNeg = uu := nI_clamp (by omega)
    simp only [hcls] at hM hLo
    refine lv_istore (lv' := [(6, .int 0), (0, .ref b), (1, .ref (g 0)), (2, .ref (gm 0)), (3, .ref ao), (4, .ref ad), (5, .int (nI (4 * n)))]) hx hb dL_law_483 hl (by decide) rfl (fun ls hl => ?_)
    refine lv_aload_n hx hb dL_law_485 rfl (lv_at hl 3 rfl) ?_
    refine sc_load hx hb hX hbl hS hL hn (j := 1) (by decide) hw1 (lv_at hl 1 rfl) (lv_at hl 6 rfl) (by decide) dL_law_486 dL_law_487 dL_law_489 dL_law_490 dL_law_491 ?_
    refine va_calli (va_runV (As := [_]) (rest := []) ⟨hx, hb, hml, hown, hts⟩ (c_X6_eliminate_ok l E gm th ln bf y.1 y.2.1 y.2.2.1 y.2.2.2 ke ms uu huu) (cwV 1 hts gL_law_X6_eliminate rfl rfl rfl (by decide +kernel) ⟨Nat.le_of_ble_eq_true rfl, Nat.le_of_ble_eq_true rfl⟩) ⟨wS.blind, hO.recv hK, fun U hU hW => wS.go hO hK C.hIm hU hW⟩ rfl rfl hl.1 rfl (lv_room (Nat.le_of_ble_eq_true rfl)) dL_law_492 ⟨(by show cells + 1 + 0 ≤ 601024; omega), (by show slots + 6 + 0 ≤ 7293034; omega)⟩) hS (fun q _ h => hAn q h) (fun q h => hAn q h) (fun r_2 u2 t H_2 locs_2 ht hvm hw hB2 hz2 hk2 hS => ?_)
    have hM := hM.at hk2 hmg
    have hLo := (hk2 ao (oA.lt hLo) hmo).trans hLo
    have hDo := (hk2 ad (oA.lt hDo) hmd).trans hDo
    rw [ht] at hB2
    obtain rfl := hw
    refine lv_topi (fun r7 hr7 => ?_)
    refine lv_istore (lv' := [(7, .int r7), (6, .int 0), (0, .ref b), (1, .ref (g 0)), (2, .ref (gm 0)), (3, .ref ao), (4, .ref ad), (5, .int (nI (4 * n)))]) hx hb dL_law_495 hl (by decide) rfl (fun ls hl => ?_)
    refine lv_aload_n hx hb dL_law_497 rfl (lv_at hl 4 rfl) ?_
    refine va_calli (va_runV (As := []) (rest := []) ⟨hx, hb, hml, hown, hts⟩ (c_X6_thrown_ok l E gm 0 ln bf y.1 y.2.1 y.2.2.1 (va_up y.2.2.2 uu ((y.2.2.2 uu).1, (elmQ y.1 (y.2.2.2 uu).2))) (kpK ke) (pushM ke ms y)) (cwV 0 hts gL_law_X6_thrown rfl rfl rfl (by decide +kernel) ⟨Nat.le_of_ble_eq_true rfl, Nat.le_of_ble_eq_true rfl⟩) ⟨wS.blind, MOB.recv hK hB2, fun U hU hW => wS.go hB2 hK C.hIm hU hW⟩ rfl rfl hl.1 rfl (lv_room (Nat.le_of_ble_eq_true rfl)) dL_law_498 ⟨(by show cells + 1 + 0 + 0 ≤ 601024; omega), (by show slots + 6 + 0 + 0 ≤ 7293034; omega)⟩) hS (fun q _ h => hAn q h) (fun q h => hAn q h) (fun r_3 u3 t H_3 locs_3 ht hvm hw hB3 hz3 hk3 hS => ?_)
    have hM := hM.at hk3 hmg
    have hLo := (hk3 ao (oA.lt hLo) hmo).trans hLo
    have hDo := (hk3 ad (oA.lt hDo) hmd).trans hDo
    rw [ht] at hB3
    obtain rfl := hw
    refine lv_iload hx hb dL_law_501 (lv_at hl 1 rfl) ?_
    refine lv_icmp_eq (tgt := 508) hx hb dL_law_503 rfl (fun _ => ?_) (fun h => absurd rfl h)
    refine lv_iload hx hb dL_law_508 (lv_at hl 1 rfl) ?_
    refine lv_if_ne (tgt := 525) hx hb dL_law_510 rfl (fun h => absurd rfl h) (fun _ => ?_)
    have hLo := oA_eq hLo ((a_elim hZ huu).trans hr7.symm)
    refine lv_aload_n hx hb dL_law_513 rfl (lv_at hl 5 rfl) ?_
    refine lv_iconst (v := 0) hx hb dL_law_514 (by decide) ?_
    refine w_lald hx hb hKL hLo dL_law_515 ?_
    refine lv_iload hx hb dL_law_516 (lv_at hl 0 rfl) ?_
    refine lv_i2l hx hb dL_law_518 rfl ?_
    refine W.lcmp hx hb dL_law_519 ?_
    rw [lg_same]
    refine lv_if_eq (tgt := 525) hx hb dL_law_520 rfl (fun _ => ?_) (fun h => absurd rfl h)
    refine lv_goto (tgt := 1485) hx hb dL_law_525 rfl ?_
    refine W.widen (k := cells + 3) (n := slots + 18) (by omega) (by omega) (kk _ _ _ ⟨ln, bf, (recvZ z uu (elimR (z.2.2.2 uu))), (y.1, y.2.1, y.2.2.1, (va_up y.2.2.2 uu ((y.2.2.2 uu).1, (elmQ y.1 (y.2.2.2 uu).2)))), (kpK ke), (pushH ke hs z), (pushM ke ms y), 0, cd, _, _, hM, hB3, RZ_le (elim1_mk hZ huu) (by omega), RHs_le (push_mk hzr.1 hR hZ) (by omega), hcd, hLo, hDo⟩ hS (lv_sub hl [2, 3, 4, 5, 6, 7] rfl))
  · skip
    refine lv_istore (lv' := [(6, .int 1), (0, .ref b), (1, .ref (g 0)), (2, .ref (gm 0)), (3, .ref ao), (4, .ref ad), (5, .int (nI (4 * n)))]) hx hb dL_law_483 hl (by decide) rfl (fun ls hl => ?_)
    refine lv_aload_n hx hb dL_law_485 rfl (lv_at hl 3 rfl) ?_
    refine sc_load hx hb hX hbl hS hL hn (j := 1) (by decide) hw1 (lv_at hl 1 rfl) (lv_at hl 6 rfl) (by decide) dL_law_486 dL_law_487 dL_law_489 dL_law_490 dL_law_491 ?_
    refine va_calli (va_runV (As := [_]) (rest := []) ⟨hx, hb, hml, hown, hts⟩ (c_X6_eliminate_no l E gm th ln bf y.1 y.2.1 y.2.2.1 y.2.2.2 ke ms w1 (inB_f (n := 3) rfl (by decide) (by decide) hc)) (cwV 1 hts gL_law_X6_eliminate rfl rfl rfl (by decide +kernel) ⟨Nat.le_of_ble_eq_true rfl, Nat.le_of_ble_eq_true rfl⟩) ⟨wS.blind, hO.recv hK, fun U hU hW => wS.go hO hK C.hIm hU hW⟩ rfl rfl hl.1 rfl (lv_room (Nat.le_of_ble_eq_true rfl)) dL_law_492 ⟨(by show cells + 1 + 0 ≤ 601024; omega), (by show slots + 6 + 0 ≤ 7293034; omega)⟩) hS (fun q _ h => hAn q h) (fun q h => hAn q h) (fun r_2 u2 t H_2 locs_2 ht hvm hw hB2 hz2 hk2 hS => ?_)
    have hM := hM.at hk2 hmg
    have hLo := (hk2 ao (oA.lt hLo) hmo).trans hLo
    have hDo := (hk2 ad (oA.lt hDo) hmd).trans hDo
    rw [ht] at hB2
    obtain rfl := hw
    refine lv_topi (fun r7 hr7 => ?_)
    refine lv_istore (lv' := [(7, .int r7), (6, .int 1), (0, .ref b), (1, .ref (g 0)), (2, .ref (gm 0)), (3, .ref ao), (4, .ref ad), (5, .int (nI (4 * n)))]) hx hb dL_law_495 hl (by decide) rfl (fun ls hl => ?_)
    refine lv_aload_n hx hb dL_law_497 rfl (lv_at hl 4 rfl) ?_
    refine va_calli (va_runV (As := []) (rest := []) ⟨hx, hb, hml, hown, hts⟩ (c_X6_thrown_ok l E gm 1 ln bf y.1 y.2.1 y.2.2.1 y.2.2.2 ke ms) (cwV 0 hts gL_law_X6_thrown rfl rfl rfl (by decide +kernel) ⟨Nat.le_of_ble_eq_true rfl, Nat.le_of_ble_eq_true rfl⟩) ⟨wS.blind, MOB.recv hK hB2, fun U hU hW => wS.go hB2 hK C.hIm hU hW⟩ rfl rfl hl.1 rfl (lv_room (Nat.le_of_ble_eq_true rfl)) dL_law_498 ⟨(by show cells + 1 + 0 + 0 ≤ 601024; omega), (by show slots + 6 + 0 + 0 ≤ 7293034; omega)⟩) hS (fun q _ h => hAn q h) (fun q h => hAn q h) (fun r_3 u3 t H_3 locs_3 ht hvm hw hB3 hz3 hk3 hS => ?_)
    have hM := hM.at hk3 hmg
    have hLo := (hk3 ao (oA.lt hLo) hmo).trans hLo
    have hDo := (hk3 ad (oA.lt hDo) hmd).trans hDo
    rw [ht] at hB3
    obtain rfl := hw
    refine lv_iload hx hb dL_law_501 (lv_at hl 1 rfl) ?_
    refine lv_icmp_eq (tgt := 508) hx hb dL_law_503 rfl (fun _ => ?_) (fun h => absurd rfl h)
    refine lv_iload hx hb dL_law_508 (lv_at hl 1 rfl) ?_
    refine lv_if_ne (tgt := 525) hx hb dL_law_510 rfl (fun _ => ?_) (fun h => absurd h (by decide))
    refine lv_goto (tgt := 1485) hx hb dL_law_525 rfl ?_
    refine W.widen (k := cells + 3) (n := slots + 18) (by omega) (by omega) (kk _ _ _ ⟨ln, bf, z, (y.1, y.2.1, y.2.2.1, y.2.2.2), ke, hs, ms, 1, cd, _, _, hM, hB3, RZ_le hZ (by omega), RHs_le hR (by omega), hcd, hLo, hDo⟩ hS (lv_sub hl [2, 3, 4, 5, 6, 7] rfl))
set_option maxHeartbeats 4000000 in
set_option maxRecDepth 100000 in
theorem law_append {p : Program} {l : Launch} {e : Env} {s : State} {m : MethodId} {below : List Frame} {meth : Method} {c : Code} {b L : Nat} {xs : Nat → Int32} {E : wE} {cL cD : ClassId} {g gm : Nat → Nat} {ao ad : Nat} (C : LC p l s m meth c b L xs E cL cD g gm ao ad) {n B : Nat} (hn : 4 * n + 4 ≤ L) (hB : B ≤ 60000) {H : Heap} {locs : List Loc} {cells slots : Nat} {ls : Array Slot} {Q : State → Prop} (hcl9 : cells + 3 ≤ 601024) (hsl9 : slots + 18 ≤ 7293034) (hI : LI E cL cD g gm ao ad B H) (hS : va_S (lwA s) s.heap H locs)
    (hl : lv_has ls 9 [(0, .ref b), (1, .ref (g 0)), (2, .ref (gm 0)), (3, .ref ao), (4, .ref ad), (5, .int (nI (4 * n)))])
    (kk : ∀ (H2 : Heap) (locs2 : List Loc) (ls2 : Array Slot), LI E cL cD g gm ao ad (B + 100) H2 → va_S (lwA s) s.heap H2 locs2 → lv_has ls2 9 [(0, .ref b), (1, .ref (g 0)), (2, .ref (gm 0)), (3, .ref ao), (4, .ref ad), (5, .int (nI (4 * n)))] → W p l e room_1 s m #[Value.ref b] below meth c H2 locs2 (cells + 3) (slots + 18) Q (F0 m 1485 ls2 [])) : W p l e room_1 s m #[Value.ref b] below meth c H locs cells slots Q (F0 m 528 ls []) := by
  have hx := C.hx
  have hb := C.hb
  have hml := C.hml
  have hown := C.hown
  have hts := C.hts
  have hX := C.hX
  have hbl := C.hbl
  have hst := C.hst
  have hL := C.hL
  have hK := C.hK
  have hKL := C.hKL
  have hxe := C.hxe
  have hxc := C.hxc
  obtain ⟨ln, bf, z, y, ke, hs, ms, th, cd, x0, d0, hM, hO, hZ, hR, hcd, hLo, hDo⟩ := hI
  have hzr := hM.rng
  have hAn : ∀ q, wF 6 gm q → lwA s q := by rintro q ⟨k, hk, rfl⟩; exact C.hAm k hk
  have hmg : ∀ k, k < 94 → ¬ wF 6 gm (g k) := by rintro k hk ⟨j, hj, e9⟩; exact C.ngm k j hk hj e9
  have hmo : ¬ wF 6 gm ao := by rintro ⟨j, hj, e9⟩; exact C.nmo j hj e9.symm
  have hmd : ¬ wF 6 gm ad := by rintro ⟨j, hj, e9⟩; exact C.nmd j hj e9.symm
  have hAw : ∀ q, wA g ao q → lwA s q := by
    rintro q (⟨k, hk, rfl⟩ | rfl)
    · exact C.hAg k hk
    · exact C.hAo
  have hwm : ∀ k, k < 6 → ¬ wA g ao (gm k) := by
    rintro k hk (⟨j, hj, e9⟩ | e9)
    · exact C.ngm j k hj hk e9.symm
    · exact C.nmo k hk e9
  have hwo : ¬ wA g ao ad := by
    rintro (⟨j, hj, e9⟩ | e9)
    · exact C.ngd j hj e9.symm
    · exact C.nod e9.symm
  obtain ⟨w1, hw1⟩ : ∃ w, xs (4 * n + 1) = w := ⟨_, rfl⟩
  refine lv_aload_n hx hb dL_law_528 rfl (lv_at hl 1 rfl) ?_
  refine sc_load hx hb hX hbl hS hL hn (j := 1) (by decide) hw1 (lv_at hl 0 rfl) (lv_at hl 5 rfl) (by decide) dL_law_529 dL_law_530 dL_law_532 dL_law_533 dL_law_534 ?_
  refine lv_aload_n hx hb dL_law_535 rfl (lv_at hl 3 rfl) ?_
  refine va_calli (vx_runSW (As := [.ref (g 0), .int w1, .ref ao]) (rest := []) ⟨hx, hb, hml, hown, hts⟩ (c_L_append l hst cL cD ao E g ln bf z ke hs w1) (vx_cwSW 3 hts gL_law_L_append rfl rfl rfl (by decide +kernel) ⟨Nat.le_of_ble_eq_true rfl, Nat.le_of_ble_eq_true rfl⟩) ⟨wL.blind, fun U hU hW => wL.go hM ⟨_, hLo⟩ hK hKL C.hI C.ngo hxe hxc hS hAw hU hW⟩ rfl rfl hl.1 rfl (lv_room (Nat.le_of_ble_eq_true rfl)) dL_law_536 ⟨Nat.le_trans (Nat.add_le_add_left (by decide) cells) hcl9, Nat.le_trans (Nat.add_le_add_left (by decide) slots) hsl9⟩) hS (fun q _ h => hAw q h) (fun q h => hAw q h) (fun r_1 u1 t H_1 locs_1 ht hvm hw hB1 hz1 hk1 hS => ?_)
  obtain rfl : r_1 = u1 := hw
  rw [ht] at hB1
  have hO := hO.at hk1 hwm
  have hDo := (hk1 ad hDo.lt hwo).trans hDo
  clear hLo hM
  rcases hB1 with ⟨rfl, hc, hLo, hM⟩ | ⟨rfl, hc, ⟨x1, hLo⟩, hM⟩ | ⟨rfl, hc, ⟨x1, hLo⟩, hM⟩
  · skip
    obtain ⟨c1, h33, h126, rfl⟩ := i_rng (a := 33) (b := 126) hc.1 (by decide) (by decide)
    refine lv_istore (lv' := [(6, .int 0), (0, .ref b), (1, .ref (g 0)), (2, .ref (gm 0)), (3, .ref ao), (4, .ref ad), (5, .int (nI (4 * n)))]) hx hb dL_law_539 hl (by decide) rfl (fun ls hl => ?_)
    refine lv_aload_n hx hb dL_law_541 rfl (lv_at hl 3 rfl) ?_
    refine sc_load hx hb hX hbl hS hL hn (j := 1) (by decide) hw1 (lv_at hl 1 rfl) (lv_at hl 6 rfl) (by decide) dL_law_542 dL_law_543 dL_law_545 dL_law_546 dL_law_547 ?_
    refine va_calli (va_runV (As := [_]) (rest := []) ⟨hx, hb, hml, hown, hts⟩ (c_X6_append_ok l E gm th ln bf y.1 y.2.1 y.2.2.1 y.2.2.2 ke ms (nI c1) (inB_r hc.1) hc.2) (cwV 1 hts gL_law_X6_append rfl rfl rfl (by decide +kernel) ⟨Nat.le_of_ble_eq_true rfl, Nat.le_of_ble_eq_true rfl⟩) ⟨wS.blind, hO.recv hK, fun U hU hW => wS.go hO hK C.hIm hU hW⟩ rfl rfl hl.1 rfl (lv_room (Nat.le_of_ble_eq_true rfl)) dL_law_548 ⟨(by show cells + 1 + 0 ≤ 601024; omega), (by show slots + 6 + 0 ≤ 7293034; omega)⟩) hS (fun q _ h => hAn q h) (fun q h => hAn q h) (fun r_2 u2 t H_2 locs_2 ht hvm hw hB2 hz2 hk2 hS => ?_)
    have hM := hM.at hk2 hmg
    have hLo := (hk2 ao (oA.lt hLo) hmo).trans hLo
    have hDo := (hk2 ad (oA.lt hDo) hmd).trans hDo
    rw [ht] at hB2
    obtain rfl := hw
    refine lv_topi (fun r7 hr7 => ?_)
    refine lv_istore (lv' := [(7, .int r7), (6, .int 0), (0, .ref b), (1, .ref (g 0)), (2, .ref (gm 0)), (3, .ref ao), (4, .ref ad), (5, .int (nI (4 * n)))]) hx hb dL_law_551 hl (by decide) rfl (fun ls hl => ?_)
    refine lv_aload_n hx hb dL_law_553 rfl (lv_at hl 4 rfl) ?_
    refine va_calli (va_runV (As := []) (rest := []) ⟨hx, hb, hml, hown, hts⟩ (c_X6_thrown_ok l E gm 0 (ln + 1) (upd bf ln (nI c1)) y.1 y.2.1 y.2.2.1 y.2.2.2 ke ms) (cwV 0 hts gL_law_X6_thrown rfl rfl rfl (by decide +kernel) ⟨Nat.le_of_ble_eq_true rfl, Nat.le_of_ble_eq_true rfl⟩) ⟨wS.blind, MOB.recv hK hB2, fun U hU hW => wS.go hB2 hK C.hIm hU hW⟩ rfl rfl hl.1 rfl (lv_room (Nat.le_of_ble_eq_true rfl)) dL_law_554 ⟨(by show cells + 1 + 0 + 0 ≤ 601024; omega), (by show slots + 6 + 0 + 0 ≤ 7293034; omega)⟩) hS (fun q _ h => hAn q h) (fun q h => hAn q h) (fun r_3 u3 t H_3 locs_3 ht hvm hw hB3 hz3 hk3 hS => ?_)
    have hM := hM.at hk3 hmg
    have hLo := (hk3 ao (oA.lt hLo) hmo).trans hLo
    have hDo := (hk3 ad (oA.lt hDo) hmd).trans hDo
    rw [ht] at hB3
    obtain rfl := hw
    refine lv_iload hx hb dL_law_557 (lv_at hl 1 rfl) ?_
    refine lv_icmp_eq (tgt := 564) hx hb dL_law_559 rfl (fun _ => ?_) (fun h => absurd rfl h)
    refine lv_iload hx hb dL_law_564 (lv_at hl 1 rfl) ?_
    refine lv_if_ne (tgt := 581) hx hb dL_law_566 rfl (fun h => absurd rfl h) (fun _ => ?_)
    have hLo := oA_eq hLo ((rfl).trans hr7.symm)
    refine lv_aload_n hx hb dL_law_569 rfl (lv_at hl 5 rfl) ?_
    refine lv_iconst (v := 0) hx hb dL_law_570 (by decide) ?_
    refine w_lald hx hb hKL hLo dL_law_571 ?_
    refine lv_iload hx hb dL_law_572 (lv_at hl 0 rfl) ?_
    refine lv_i2l hx hb dL_law_574 rfl ?_
    refine W.lcmp hx hb dL_law_575 ?_
    rw [lg_same]
    refine lv_if_eq (tgt := 581) hx hb dL_law_576 rfl (fun _ => ?_) (fun h => absurd rfl h)
    refine lv_goto (tgt := 1485) hx hb dL_law_581 rfl ?_
    refine W.widen (k := cells + 3) (n := slots + 18) (by omega) (by omega) (kk _ _ _ ⟨(ln + 1), (upd bf ln (nI c1)), z, (y.1, y.2.1, y.2.2.1, y.2.2.2), ke, hs, ms, 0, (fun j => if j = ln then c1 else cd j), _, _, hM, hB3, RZ_le hZ (by omega), RHs_le hR (by omega), cd_add hcd h126, hLo, hDo⟩ hS (lv_sub hl [2, 3, 4, 5, 6, 7] rfl))
  · skip
    refine lv_istore (lv' := [(6, .int 1), (0, .ref b), (1, .ref (g 0)), (2, .ref (gm 0)), (3, .ref ao), (4, .ref ad), (5, .int (nI (4 * n)))]) hx hb dL_law_539 hl (by decide) rfl (fun ls hl => ?_)
    refine lv_aload_n hx hb dL_law_541 rfl (lv_at hl 3 rfl) ?_
    refine sc_load hx hb hX hbl hS hL hn (j := 1) (by decide) hw1 (lv_at hl 1 rfl) (lv_at hl 6 rfl) (by decide) dL_law_542 dL_law_543 dL_law_545 dL_law_546 dL_law_547 ?_
    refine va_calli (va_runV (As := [_]) (rest := []) ⟨hx, hb, hml, hown, hts⟩ (c_X6_append_no1 l E gm th ln bf y.1 y.2.1 y.2.2.1 y.2.2.2 ke ms w1 (inB_nr hc)) (cwV 1 hts gL_law_X6_append rfl rfl rfl (by decide +kernel) ⟨Nat.le_of_ble_eq_true rfl, Nat.le_of_ble_eq_true rfl⟩) ⟨wS.blind, hO.recv hK, fun U hU hW => wS.go hO hK C.hIm hU hW⟩ rfl rfl hl.1 rfl (lv_room (Nat.le_of_ble_eq_true rfl)) dL_law_548 ⟨(by show cells + 1 + 0 ≤ 601024; omega), (by show slots + 6 + 0 ≤ 7293034; omega)⟩) hS (fun q _ h => hAn q h) (fun q h => hAn q h) (fun r_2 u2 t H_2 locs_2 ht hvm hw hB2 hz2 hk2 hS => ?_)
    have hM := hM.at hk2 hmg
    have hLo := (hk2 ao (oA.lt hLo) hmo).trans hLo
    have hDo := (hk2 ad (oA.lt hDo) hmd).trans hDo
    rw [ht] at hB2
    obtain rfl := hw
    refine lv_topi (fun r7 hr7 => ?_)
    refine lv_istore (lv' := [(7, .int r7), (6, .int 1), (0, .ref b), (1, .ref (g 0)), (2, .ref (gm 0)), (3, .ref ao), (4, .ref ad), (5, .int (nI (4 * n)))]) hx hb dL_law_551 hl (by decide) rfl (fun ls hl => ?_)
    refine lv_aload_n hx hb dL_law_553 rfl (lv_at hl 4 rfl) ?_
    refine va_calli (va_runV (As := []) (rest := []) ⟨hx, hb, hml, hown, hts⟩ (c_X6_thrown_ok l E gm 1 ln bf y.1 y.2.1 y.2.2.1 y.2.2.2 ke ms) (cwV 0 hts gL_law_X6_thrown rfl rfl rfl (by decide +kernel) ⟨Nat.le_of_ble_eq_true rfl, Nat.le_of_ble_eq_true rfl⟩) ⟨wS.blind, MOB.recv hK hB2, fun U hU hW => wS.go hB2 hK C.hIm hU hW⟩ rfl rfl hl.1 rfl (lv_room (Nat.le_of_ble_eq_true rfl)) dL_law_554 ⟨(by show cells + 1 + 0 + 0 ≤ 601024; omega), (by show slots + 6 + 0 + 0 ≤ 7293034; omega)⟩) hS (fun q _ h => hAn q h) (fun q h => hAn q h) (fun r_3 u3 t H_3 locs_3 ht hvm hw hB3 hz3 hk3 hS => ?_)
    have hM := hM.at hk3 hmg
    have hLo := (hk3 ao (oA.lt hLo) hmo).trans hLo
    have hDo := (hk3 ad (oA.lt hDo) hmd).trans hDo
    rw [ht] at hB3
    obtain rfl := hw
    refine lv_iload hx hb dL_law_557 (lv_at hl 1 rfl) ?_
    refine lv_icmp_eq (tgt := 564) hx hb dL_law_559 rfl (fun _ => ?_) (fun h => absurd rfl h)
    refine lv_iload hx hb dL_law_564 (lv_at hl 1 rfl) ?_
    refine lv_if_ne (tgt := 581) hx hb dL_law_566 rfl (fun _ => ?_) (fun h => absurd h (by decide))
    refine lv_goto (tgt := 1485) hx hb dL_law_581 rfl ?_
    refine W.widen (k := cells + 3) (n := slots + 18) (by omega) (by omega) (kk _ _ _ ⟨ln, bf, z, (y.1, y.2.1, y.2.2.1, y.2.2.2), ke, hs, ms, 1, cd, _, _, hM, hB3, RZ_le hZ (by omega), RHs_le hR (by omega), hcd, hLo, hDo⟩ hS (lv_sub hl [2, 3, 4, 5, 6, 7] rfl))
  · skip
    refine lv_istore (lv' := [(6, .int 2), (0, .ref b), (1, .ref (g 0)), (2, .ref (gm 0)), (3, .ref ao), (4, .ref ad), (5, .int (nI (4 * n)))]) hx hb dL_law_539 hl (by decide) rfl (fun ls hl => ?_)
    refine lv_aload_n hx hb dL_law_541 rfl (lv_at hl 3 rfl) ?_
    refine sc_load hx hb hX hbl hS hL hn (j := 1) (by decide) hw1 (lv_at hl 1 rfl) (lv_at hl 6 rfl) (by decide) dL_law_542 dL_law_543 dL_law_545 dL_law_546 dL_law_547 ?_
    refine va_calli (va_runV (As := [_]) (rest := []) ⟨hx, hb, hml, hown, hts⟩ (c_X6_append_no2 l E gm th ln bf y.1 y.2.1 y.2.2.1 y.2.2.2 ke ms w1 (inB_r hc.1) (by omega)) (cwV 1 hts gL_law_X6_append rfl rfl rfl (by decide +kernel) ⟨Nat.le_of_ble_eq_true rfl, Nat.le_of_ble_eq_true rfl⟩) ⟨wS.blind, hO.recv hK, fun U hU hW => wS.go hO hK C.hIm hU hW⟩ rfl rfl hl.1 rfl (lv_room (Nat.le_of_ble_eq_true rfl)) dL_law_548 ⟨(by show cells + 1 + 0 ≤ 601024; omega), (by show slots + 6 + 0 ≤ 7293034; omega)⟩) hS (fun q _ h => hAn q h) (fun q h => hAn q h) (fun r_2 u2 t H_2 locs_2 ht hvm hw hB2 hz2 hk2 hS => ?_)
    have hM := hM.at hk2 hmg
    have hLo := (hk2 ao (oA.lt hLo) hmo).trans hLo
    have hDo := (hk2 ad (oA.lt hDo) hmd).trans hDo
    rw [ht] at hB2
    obtain rfl := hw
    refine lv_topi (fun r7 hr7 => ?_)
    refine lv_istore (lv' := [(7, .int r7), (6, .int 2), (0, .ref b), (1, .ref (g 0)), (2, .ref (gm 0)), (3, .ref ao), (4, .ref ad), (5, .int (nI (4 * n)))]) hx hb dL_law_551 hl (by decide) rfl (fun ls hl => ?_)
    refine lv_aload_n hx hb dL_law_553 rfl (lv_at hl 4 rfl) ?_
    refine va_calli (va_runV (As := []) (rest := []) ⟨hx, hb, hml, hown, hts⟩ (c_X6_thrown_ok l E gm 2 ln bf y.1 y.2.1 y.2.2.1 y.2.2.2 ke ms) (cwV 0 hts gL_law_X6_thrown rfl rfl rfl (by decide +kernel) ⟨Nat.le_of_ble_eq_true rfl, Nat.le_of_ble_eq_true rfl⟩) ⟨wS.blind, MOB.recv hK hB2, fun U hU hW => wS.go hB2 hK C.hIm hU hW⟩ rfl rfl hl.1 rfl (lv_room (Nat.le_of_ble_eq_true rfl)) dL_law_554 ⟨(by show cells + 1 + 0 + 0 ≤ 601024; omega), (by show slots + 6 + 0 + 0 ≤ 7293034; omega)⟩) hS (fun q _ h => hAn q h) (fun q h => hAn q h) (fun r_3 u3 t H_3 locs_3 ht hvm hw hB3 hz3 hk3 hS => ?_)
    have hM := hM.at hk3 hmg
    have hLo := (hk3 ao (oA.lt hLo) hmo).trans hLo
    have hDo := (hk3 ad (oA.lt hDo) hmd).trans hDo
    rw [ht] at hB3
    obtain rfl := hw
    refine lv_iload hx hb dL_law_557 (lv_at hl 1 rfl) ?_
    refine lv_icmp_eq (tgt := 564) hx hb dL_law_559 rfl (fun _ => ?_) (fun h => absurd rfl h)
    refine lv_iload hx hb dL_law_564 (lv_at hl 1 rfl) ?_
    refine lv_if_ne (tgt := 581) hx hb dL_law_566 rfl (fun _ => ?_) (fun h => absurd h (by decide))
    refine lv_goto (tgt := 1485) hx hb dL_law_581 rfl ?_
    refine W.widen (k := cells + 3) (n := slots + 18) (by omega) (by omega) (kk _ _ _ ⟨ln, bf, z, (y.1, y.2.1, y.2.2.1, y.2.2.2), ke, hs, ms, 2, cd, _, _, hM, hB3, RZ_le hZ (by omega), RHs_le hR (by omega), hcd, hLo, hDo⟩ hS (lv_sub hl [2, 3, 4, 5, 6, 7] rfl))
set_option maxHeartbeats 4000000 in
set_option maxRecDepth 100000 in
theorem law_sendAll {p : Program} {l : Launch} {e : Env} {s : State} {m : MethodId} {below : List Frame} {meth : Method} {c : Code} {b L : Nat} {xs : Nat → Int32} {E : wE} {cL cD : ClassId} {g gm : Nat → Nat} {ao ad : Nat} (C : LC p l s m meth c b L xs E cL cD g gm ao ad) {n B : Nat} (hn : 4 * n + 4 ≤ L) (hB : B ≤ 60000) {H : Heap} {locs : List Loc} {cells slots : Nat} {ls : Array Slot} {Q : State → Prop} (hcl9 : cells + 3 ≤ 601024) (hsl9 : slots + 18 ≤ 7293034) (hI : LI E cL cD g gm ao ad B H) (hS : va_S (lwA s) s.heap H locs)
    (hl : lv_has ls 9 [(0, .ref b), (1, .ref (g 0)), (2, .ref (gm 0)), (3, .ref ao), (4, .ref ad), (5, .int (nI (4 * n)))])
    (kk : ∀ (H2 : Heap) (locs2 : List Loc) (ls2 : Array Slot), LI E cL cD g gm ao ad (B + 100) H2 → va_S (lwA s) s.heap H2 locs2 → lv_has ls2 9 [(0, .ref b), (1, .ref (g 0)), (2, .ref (gm 0)), (3, .ref ao), (4, .ref ad), (5, .int (nI (4 * n)))] → W p l e room_1 s m #[Value.ref b] below meth c H2 locs2 (cells + 3) (slots + 18) Q (F0 m 1485 ls2 [])) : W p l e room_1 s m #[Value.ref b] below meth c H locs cells slots Q (F0 m 610 ls []) := by
  have hx := C.hx
  have hb := C.hb
  have hml := C.hml
  have hown := C.hown
  have hts := C.hts
  have hX := C.hX
  have hbl := C.hbl
  have hst := C.hst
  have hL := C.hL
  have hK := C.hK
  have hKL := C.hKL
  have hxe := C.hxe
  have hxc := C.hxc
  obtain ⟨ln, bf, z, y, ke, hs, ms, th, cd, x0, d0, hM, hO, hZ, hR, hcd, hLo, hDo⟩ := hI
  have hzr := hM.rng
  have hAn : ∀ q, wF 6 gm q → lwA s q := by rintro q ⟨k, hk, rfl⟩; exact C.hAm k hk
  have hmg : ∀ k, k < 94 → ¬ wF 6 gm (g k) := by rintro k hk ⟨j, hj, e9⟩; exact C.ngm k j hk hj e9
  have hmo : ¬ wF 6 gm ao := by rintro ⟨j, hj, e9⟩; exact C.nmo j hj e9.symm
  have hmd : ¬ wF 6 gm ad := by rintro ⟨j, hj, e9⟩; exact C.nmd j hj e9.symm
  have hAw : ∀ q, wA g ao q → lwA s q := by
    rintro q (⟨k, hk, rfl⟩ | rfl)
    · exact C.hAg k hk
    · exact C.hAo
  have hwm : ∀ k, k < 6 → ¬ wA g ao (gm k) := by
    rintro k hk (⟨j, hj, e9⟩ | e9)
    · exact C.ngm j k hj hk e9.symm
    · exact C.nmo k hk e9
  have hwo : ¬ wA g ao ad := by
    rintro (⟨j, hj, e9⟩ | e9)
    · exact C.ngd j hj e9.symm
    · exact C.nod e9.symm
  refine lv_aload_n hx hb dL_law_610 rfl (lv_at hl 1 rfl) ?_
  refine lv_aload_n hx hb dL_law_611 rfl (lv_at hl 3 rfl) ?_
  refine va_calli (vx_runSW (As := [.ref (g 0), .ref ao]) (rest := []) ⟨hx, hb, hml, hown, hts⟩ (c_L_sendAll l hst cL cD ao E g ln bf z ke hs cd (fun j h => (hcd j h).1) (fun j h => (hcd j h).2)) (vx_cwSW 2 hts gL_law_L_sendAll rfl rfl rfl (by decide +kernel) ⟨Nat.le_of_ble_eq_true rfl, Nat.le_of_ble_eq_true rfl⟩) ⟨wL.blind, fun U hU hW => wL.go hM ⟨_, hLo⟩ hK hKL C.hI C.ngo hxe hxc hS hAw hU hW⟩ rfl rfl hl.1 rfl (lv_room (Nat.le_of_ble_eq_true rfl)) dL_law_612 ⟨Nat.le_trans (Nat.add_le_add_left (by decide) cells) hcl9, Nat.le_trans (Nat.add_le_add_left (by decide) slots) hsl9⟩) hS (fun q _ h => hAw q h) (fun q h => hAw q h) (fun r_1 u1 t H_1 locs_1 ht hvm hw hB1 hz1 hk1 hS => ?_)
  obtain rfl : r_1 = u1 := hw
  rw [ht] at hB1
  have hO := hO.at hk1 hwm
  have hDo := (hk1 ad hDo.lt hwo).trans hDo
  clear hLo hM
  rcases hB1 with ⟨rfl, hc, hLo, hM⟩ | ⟨rfl, hc, ⟨x1, hLo⟩, hM⟩
  · skip
    have hg0 := t_ok (y := (y.2.2.1, y.2.2.2)) (nb := y.1) hc
    refine lv_istore (lv' := [(6, .int 0), (0, .ref b), (1, .ref (g 0)), (2, .ref (gm 0)), (3, .ref ao), (4, .ref ad), (5, .int (nI (4 * n)))]) hx hb dL_law_615 hl (by decide) rfl (fun ls hl => ?_)
    refine lv_aload_n hx hb dL_law_617 rfl (lv_at hl 3 rfl) ?_
    refine va_calli (va_runV (As := []) (rest := []) ⟨hx, hb, hml, hown, hts⟩ (c_X6_sendAll_ok l E gm th ln bf y.1 y.2.1 y.2.2.1 y.2.2.2 ke ms cd (fun j h => (hcd j h).1) (fun j h => (hcd j h).2) hg0) (cwV 0 hts gL_law_X6_sendAll rfl rfl rfl (by decide +kernel) ⟨Nat.le_of_ble_eq_true rfl, Nat.le_of_ble_eq_true rfl⟩) ⟨wS.blind, hO.recv hK, fun U hU hW => wS.go hO hK C.hIm hU hW⟩ rfl rfl hl.1 rfl (lv_room (Nat.le_of_ble_eq_true rfl)) dL_law_618 ⟨(by show cells + 1 + 0 ≤ 601024; omega), (by show slots + 6 + 0 ≤ 7293034; omega)⟩) hS (fun q _ h => hAn q h) (fun q h => hAn q h) (fun r_2 u2 t H_2 locs_2 ht hvm hw hB2 hz2 hk2 hS => ?_)
    have hM := hM.at hk2 hmg
    have hLo := (hk2 ao (oA.lt hLo) hmo).trans hLo
    have hDo := (hk2 ad (oA.lt hDo) hmd).trans hDo
    rw [ht] at hB2
    obtain rfl := hw
    refine lv_topi (fun r7 hr7 => ?_)
    refine lv_istore (lv' := [(7, .int r7), (6, .int 0), (0, .ref b), (1, .ref (g 0)), (2, .ref (gm 0)), (3, .ref ao), (4, .ref ad), (5, .int (nI (4 * n)))]) hx hb dL_law_621 hl (by decide) rfl (fun ls hl => ?_)
    refine lv_aload_n hx hb dL_law_623 rfl (lv_at hl 4 rfl) ?_
    refine va_calli (va_runV (As := []) (rest := []) ⟨hx, hb, hml, hown, hts⟩ (c_X6_thrown_ok l E gm 0 0 bf y.1 y.2.1 (goM cd ln y.1 true (ln + 1) 0 0 (y.2.2.1, y.2.2.2)).2.2.2.1 (goM cd ln y.1 true (ln + 1) 0 0 (y.2.2.1, y.2.2.2)).2.2.2.2 (kpK ke) (pushM ke ms y)) (cwV 0 hts gL_law_X6_thrown rfl rfl rfl (by decide +kernel) ⟨Nat.le_of_ble_eq_true rfl, Nat.le_of_ble_eq_true rfl⟩) ⟨wS.blind, MOB.recv hK hB2, fun U hU hW => wS.go hB2 hK C.hIm hU hW⟩ rfl rfl hl.1 rfl (lv_room (Nat.le_of_ble_eq_true rfl)) dL_law_624 ⟨(by show cells + 1 + 0 + 0 ≤ 601024; omega), (by show slots + 6 + 0 + 0 ≤ 7293034; omega)⟩) hS (fun q _ h => hAn q h) (fun q h => hAn q h) (fun r_3 u3 t H_3 locs_3 ht hvm hw hB3 hz3 hk3 hS => ?_)
    have hM := hM.at hk3 hmg
    have hLo := (hk3 ao (oA.lt hLo) hmo).trans hLo
    have hDo := (hk3 ad (oA.lt hDo) hmd).trans hDo
    rw [ht] at hB3
    obtain rfl := hw
    refine lv_iload hx hb dL_law_627 (lv_at hl 1 rfl) ?_
    refine lv_icmp_eq (tgt := 634) hx hb dL_law_629 rfl (fun _ => ?_) (fun h => absurd rfl h)
    refine lv_iload hx hb dL_law_634 (lv_at hl 1 rfl) ?_
    refine lv_if_ne (tgt := 651) hx hb dL_law_636 rfl (fun h => absurd rfl h) (fun _ => ?_)
    have hLo := oA_eq hLo ((congrArg nI (t_send hZ hg0).1).trans hr7.symm)
    refine lv_aload_n hx hb dL_law_639 rfl (lv_at hl 5 rfl) ?_
    refine lv_iconst (v := 0) hx hb dL_law_640 (by decide) ?_
    refine w_lald hx hb hKL hLo dL_law_641 ?_
    refine lv_iload hx hb dL_law_642 (lv_at hl 0 rfl) ?_
    refine lv_i2l hx hb dL_law_644 rfl ?_
    refine W.lcmp hx hb dL_law_645 ?_
    rw [lg_same]
    refine lv_if_eq (tgt := 651) hx hb dL_law_646 rfl (fun _ => ?_) (fun h => absurd rfl h)
    refine lv_goto (tgt := 1485) hx hb dL_law_651 rfl ?_
    refine W.widen (k := cells + 3) (n := slots + 18) (by omega) (by omega) (kk _ _ _ ⟨0, bf, (saZ cd ln z).2.2, (y.1, y.2.1, (goM cd ln y.1 true (ln + 1) 0 0 (y.2.2.1, y.2.2.2)).2.2.2.1, (goM cd ln y.1 true (ln + 1) 0 0 (y.2.2.1, y.2.2.2)).2.2.2.2), (kpK ke), (pushH ke hs z), (pushM ke ms y), 0, cd, _, _, hM, hB3, RZ_le (t_send hZ hg0).2 (by omega), RHs_le (push_mk hzr.1 hR hZ) (by omega), cd_0, hLo, hDo⟩ hS (lv_sub hl [2, 3, 4, 5, 6, 7] rfl))
  · skip
    refine lv_istore (lv' := [(6, .int 1), (0, .ref b), (1, .ref (g 0)), (2, .ref (gm 0)), (3, .ref ao), (4, .ref ad), (5, .int (nI (4 * n)))]) hx hb dL_law_615 hl (by decide) rfl (fun ls hl => ?_)
    refine lv_aload_n hx hb dL_law_617 rfl (lv_at hl 3 rfl) ?_
    refine va_calli (va_runV (As := []) (rest := []) ⟨hx, hb, hml, hown, hts⟩ (c_X6_sendAll_no l E gm th ln bf y.1 y.2.1 y.2.2.1 y.2.2.2 ke ms cd (fun j h => (hcd j h).1) (fun j h => (hcd j h).2) (t_no hc)) (cwV 0 hts gL_law_X6_sendAll rfl rfl rfl (by decide +kernel) ⟨Nat.le_of_ble_eq_true rfl, Nat.le_of_ble_eq_true rfl⟩) ⟨wS.blind, hO.recv hK, fun U hU hW => wS.go hO hK C.hIm hU hW⟩ rfl rfl hl.1 rfl (lv_room (Nat.le_of_ble_eq_true rfl)) dL_law_618 ⟨(by show cells + 1 + 0 ≤ 601024; omega), (by show slots + 6 + 0 ≤ 7293034; omega)⟩) hS (fun q _ h => hAn q h) (fun q h => hAn q h) (fun r_2 u2 t H_2 locs_2 ht hvm hw hB2 hz2 hk2 hS => ?_)
    have hM := hM.at hk2 hmg
    have hLo := (hk2 ao (oA.lt hLo) hmo).trans hLo
    have hDo := (hk2 ad (oA.lt hDo) hmd).trans hDo
    rw [ht] at hB2
    obtain rfl := hw
    refine lv_topi (fun r7 hr7 => ?_)
    refine lv_istore (lv' := [(7, .int r7), (6, .int 1), (0, .ref b), (1, .ref (g 0)), (2, .ref (gm 0)), (3, .ref ao), (4, .ref ad), (5, .int (nI (4 * n)))]) hx hb dL_law_621 hl (by decide) rfl (fun ls hl => ?_)
    refine lv_aload_n hx hb dL_law_623 rfl (lv_at hl 4 rfl) ?_
    refine va_calli (va_runV (As := []) (rest := []) ⟨hx, hb, hml, hown, hts⟩ (c_X6_thrown_ok l E gm 1 ln bf y.1 y.2.1 y.2.2.1 y.2.2.2 ke ms) (cwV 0 hts gL_law_X6_thrown rfl rfl rfl (by decide +kernel) ⟨Nat.le_of_ble_eq_true rfl, Nat.le_of_ble_eq_true rfl⟩) ⟨wS.blind, MOB.recv hK hB2, fun U hU hW => wS.go hB2 hK C.hIm hU hW⟩ rfl rfl hl.1 rfl (lv_room (Nat.le_of_ble_eq_true rfl)) dL_law_624 ⟨(by show cells + 1 + 0 + 0 ≤ 601024; omega), (by show slots + 6 + 0 + 0 ≤ 7293034; omega)⟩) hS (fun q _ h => hAn q h) (fun q h => hAn q h) (fun r_3 u3 t H_3 locs_3 ht hvm hw hB3 hz3 hk3 hS => ?_)
    have hM := hM.at hk3 hmg
    have hLo := (hk3 ao (oA.lt hLo) hmo).trans hLo
    have hDo := (hk3 ad (oA.lt hDo) hmd).trans hDo
    rw [ht] at hB3
    obtain rfl := hw
    refine lv_iload hx hb dL_law_627 (lv_at hl 1 rfl) ?_
    refine lv_icmp_eq (tgt := 634) hx hb dL_law_629 rfl (fun _ => ?_) (fun h => absurd rfl h)
    refine lv_iload hx hb dL_law_634 (lv_at hl 1 rfl) ?_
    refine lv_if_ne (tgt := 651) hx hb dL_law_636 rfl (fun _ => ?_) (fun h => absurd h (by decide))
    refine lv_goto (tgt := 1485) hx hb dL_law_651 rfl ?_
    refine W.widen (k := cells + 3) (n := slots + 18) (by omega) (by omega) (kk _ _ _ ⟨ln, bf, z, (y.1, y.2.1, y.2.2.1, y.2.2.2), ke, hs, ms, 1, cd, _, _, hM, hB3, RZ_le hZ (by omega), RHs_le hR (by omega), hcd, hLo, hDo⟩ hS (lv_sub hl [2, 3, 4, 5, 6, 7] rfl))
set_option maxHeartbeats 4000000 in
set_option maxRecDepth 100000 in
theorem law_undo {p : Program} {l : Launch} {e : Env} {s : State} {m : MethodId} {below : List Frame} {meth : Method} {c : Code} {b L : Nat} {xs : Nat → Int32} {E : wE} {cL cD : ClassId} {g gm : Nat → Nat} {ao ad : Nat} (C : LC p l s m meth c b L xs E cL cD g gm ao ad) {n B : Nat} (hn : 4 * n + 4 ≤ L) (hB : B ≤ 60000) {H : Heap} {locs : List Loc} {cells slots : Nat} {ls : Array Slot} {Q : State → Prop} (hcl9 : cells + 3 ≤ 601024) (hsl9 : slots + 18 ≤ 7293034) (hI : LI E cL cD g gm ao ad B H) (hS : va_S (lwA s) s.heap H locs)
    (hl : lv_has ls 9 [(0, .ref b), (1, .ref (g 0)), (2, .ref (gm 0)), (3, .ref ao), (4, .ref ad), (5, .int (nI (4 * n)))])
    (kk : ∀ (H2 : Heap) (locs2 : List Loc) (ls2 : Array Slot), LI E cL cD g gm ao ad (B + 100) H2 → va_S (lwA s) s.heap H2 locs2 → lv_has ls2 9 [(0, .ref b), (1, .ref (g 0)), (2, .ref (gm 0)), (3, .ref ao), (4, .ref ad), (5, .int (nI (4 * n)))] → W p l e room_1 s m #[Value.ref b] below meth c H2 locs2 (cells + 3) (slots + 18) Q (F0 m 1485 ls2 [])) : W p l e room_1 s m #[Value.ref b] below meth c H locs cells slots Q (F0 m 654 ls []) := by
  have hx := C.hx
  have hb := C.hb
  have hml := C.hml
  have hown := C.hown
  have hts := C.hts
  have hX := C.hX
  have hbl := C.hbl
  have hst := C.hst
  have hL := C.hL
  have hK := C.hK
  have hKL := C.hKL
  have hxe := C.hxe
  have hxc := C.hxc
  obtain ⟨ln, bf, z, y, ke, hs, ms, th, cd, x0, d0, hM, hO, hZ, hR, hcd, hLo, hDo⟩ := hI
  have hzr := hM.rng
  have hAn : ∀ q, wF 6 gm q → lwA s q := by rintro q ⟨k, hk, rfl⟩; exact C.hAm k hk
  have hmg : ∀ k, k < 94 → ¬ wF 6 gm (g k) := by rintro k hk ⟨j, hj, e9⟩; exact C.ngm k j hk hj e9
  have hmo : ¬ wF 6 gm ao := by rintro ⟨j, hj, e9⟩; exact C.nmo j hj e9.symm
  have hmd : ¬ wF 6 gm ad := by rintro ⟨j, hj, e9⟩; exact C.nmd j hj e9.symm
  have hAw : ∀ q, wA g ao q → lwA s q := by
    rintro q (⟨k, hk, rfl⟩ | rfl)
    · exact C.hAg k hk
    · exact C.hAo
  have hwm : ∀ k, k < 6 → ¬ wA g ao (gm k) := by
    rintro k hk (⟨j, hj, e9⟩ | e9)
    · exact C.ngm j k hj hk e9.symm
    · exact C.nmo k hk e9
  have hwo : ¬ wA g ao ad := by
    rintro (⟨j, hj, e9⟩ | e9)
    · exact C.ngd j hj e9.symm
    · exact C.nod e9.symm
  refine lv_aload_n hx hb dL_law_654 rfl (lv_at hl 1 rfl) ?_
  refine lv_aload_n hx hb dL_law_655 rfl (lv_at hl 3 rfl) ?_
  refine va_calli (vx_runSW (As := [.ref (g 0), .ref ao]) (rest := []) ⟨hx, hb, hml, hown, hts⟩ (c_L_undo l hst cL cD ao E g ln bf z ke hs) (vx_cwSW 2 hts gL_law_L_undo rfl rfl rfl (by decide +kernel) ⟨Nat.le_of_ble_eq_true rfl, Nat.le_of_ble_eq_true rfl⟩) ⟨wL.blind, fun U hU hW => wL.go hM ⟨_, hLo⟩ hK hKL C.hI C.ngo hxe hxc hS hAw hU hW⟩ rfl rfl hl.1 rfl (lv_room (Nat.le_of_ble_eq_true rfl)) dL_law_656 ⟨Nat.le_trans (Nat.add_le_add_left (by decide) cells) hcl9, Nat.le_trans (Nat.add_le_add_left (by decide) slots) hsl9⟩) hS (fun q _ h => hAw q h) (fun q h => hAw q h) (fun r_1 u1 t H_1 locs_1 ht hvm hw hB1 hz1 hk1 hS => ?_)
  obtain rfl : r_1 = u1 := hw
  rw [ht] at hB1
  have hO := hO.at hk1 hwm
  have hDo := (hk1 ad hDo.lt hwo).trans hDo
  clear hLo hM
  rcases hB1 with ⟨rfl, hc, hLo, hM⟩ | ⟨rfl, hc, ⟨x1, hLo⟩, hM⟩
  · skip
    refine lv_istore (lv' := [(6, .int 0), (0, .ref b), (1, .ref (g 0)), (2, .ref (gm 0)), (3, .ref ao), (4, .ref ad), (5, .int (nI (4 * n)))]) hx hb dL_law_659 hl (by decide) rfl (fun ls hl => ?_)
    refine lv_aload_n hx hb dL_law_661 rfl (lv_at hl 3 rfl) ?_
    refine va_calli (va_runV (As := []) (rest := []) ⟨hx, hb, hml, hown, hts⟩ (c_X6_undo_ok l E gm th ln bf y.1 y.2.1 y.2.2.1 y.2.2.2 ke ms hc) (cwV 0 hts gL_law_X6_undo rfl rfl rfl (by decide +kernel) ⟨Nat.le_of_ble_eq_true rfl, Nat.le_of_ble_eq_true rfl⟩) ⟨wS.blind, hO.recv hK, fun U hU hW => wS.go hO hK C.hIm hU hW⟩ rfl rfl hl.1 rfl (lv_room (Nat.le_of_ble_eq_true rfl)) dL_law_662 ⟨(by show cells + 1 + 0 ≤ 601024; omega), (by show slots + 6 + 0 ≤ 7293034; omega)⟩) hS (fun q _ h => hAn q h) (fun q h => hAn q h) (fun r_2 u2 t H_2 locs_2 ht hvm hw hB2 hz2 hk2 hS => ?_)
    have hM := hM.at hk2 hmg
    have hLo := (hk2 ao (oA.lt hLo) hmo).trans hLo
    have hDo := (hk2 ad (oA.lt hDo) hmd).trans hDo
    rw [ht] at hB2
    obtain rfl := hw
    refine lv_topi (fun r7 hr7 => ?_)
    refine lv_istore (lv' := [(7, .int r7), (6, .int 0), (0, .ref b), (1, .ref (g 0)), (2, .ref (gm 0)), (3, .ref ao), (4, .ref ad), (5, .int (nI (4 * n)))]) hx hb dL_law_665 hl (by decide) rfl (fun ls hl => ?_)
    refine lv_aload_n hx hb dL_law_667 rfl (lv_at hl 4 rfl) ?_
    refine va_calli (va_runV (As := []) (rest := []) ⟨hx, hb, hml, hown, hts⟩ (c_X6_thrown_ok l E gm 0 ln bf (ms (ke - 1)).1 (ms (ke - 1)).2.1 (ms (ke - 1)).2.2.1 (ms (ke - 1)).2.2.2 (ke - 1) ms) (cwV 0 hts gL_law_X6_thrown rfl rfl rfl (by decide +kernel) ⟨Nat.le_of_ble_eq_true rfl, Nat.le_of_ble_eq_true rfl⟩) ⟨wS.blind, MOB.recv hK hB2, fun U hU hW => wS.go hB2 hK C.hIm hU hW⟩ rfl rfl hl.1 rfl (lv_room (Nat.le_of_ble_eq_true rfl)) dL_law_668 ⟨(by show cells + 1 + 0 + 0 ≤ 601024; omega), (by show slots + 6 + 0 + 0 ≤ 7293034; omega)⟩) hS (fun q _ h => hAn q h) (fun q h => hAn q h) (fun r_3 u3 t H_3 locs_3 ht hvm hw hB3 hz3 hk3 hS => ?_)
    have hM := hM.at hk3 hmg
    have hLo := (hk3 ao (oA.lt hLo) hmo).trans hLo
    have hDo := (hk3 ad (oA.lt hDo) hmd).trans hDo
    rw [ht] at hB3
    obtain rfl := hw
    refine lv_iload hx hb dL_law_671 (lv_at hl 1 rfl) ?_
    refine lv_icmp_eq (tgt := 678) hx hb dL_law_673 rfl (fun _ => ?_) (fun h => absurd rfl h)
    refine lv_iload hx hb dL_law_678 (lv_at hl 1 rfl) ?_
    refine lv_if_ne (tgt := 695) hx hb dL_law_680 rfl (fun h => absurd rfl h) (fun _ => ?_)
    have hLo := oA_eq hLo ((rfl).trans hr7.symm)
    refine lv_aload_n hx hb dL_law_683 rfl (lv_at hl 5 rfl) ?_
    refine lv_iconst (v := 0) hx hb dL_law_684 (by decide) ?_
    refine w_lald hx hb hKL hLo dL_law_685 ?_
    refine lv_iload hx hb dL_law_686 (lv_at hl 0 rfl) ?_
    refine lv_i2l hx hb dL_law_688 rfl ?_
    refine W.lcmp hx hb dL_law_689 ?_
    rw [lg_same]
    refine lv_if_eq (tgt := 695) hx hb dL_law_690 rfl (fun _ => ?_) (fun h => absurd rfl h)
    refine lv_goto (tgt := 1485) hx hb dL_law_695 rfl ?_
    refine W.widen (k := cells + 3) (n := slots + 18) (by omega) (by omega) (kk _ _ _ ⟨ln, bf, (hs (ke - 1)), ((ms (ke - 1)).1, (ms (ke - 1)).2.1, (ms (ke - 1)).2.2.1, (ms (ke - 1)).2.2.2), (ke - 1), hs, ms, 0, cd, _, _, hM, hB3, RZ_le (hR (ke - 1) (by omega)) (by omega), RHs_le (RHs_back hR (by omega)) (by omega), hcd, hLo, hDo⟩ hS (lv_sub hl [2, 3, 4, 5, 6, 7] rfl))
  · skip
    refine lv_istore (lv' := [(6, .int 1), (0, .ref b), (1, .ref (g 0)), (2, .ref (gm 0)), (3, .ref ao), (4, .ref ad), (5, .int (nI (4 * n)))]) hx hb dL_law_659 hl (by decide) rfl (fun ls hl => ?_)
    refine lv_aload_n hx hb dL_law_661 rfl (lv_at hl 3 rfl) ?_
    refine va_calli (va_runV (As := []) (rest := []) ⟨hx, hb, hml, hown, hts⟩ (c_X6_undo_no l E gm th ln bf y.1 y.2.1 y.2.2.1 y.2.2.2 ke ms (by omega)) (cwV 0 hts gL_law_X6_undo rfl rfl rfl (by decide +kernel) ⟨Nat.le_of_ble_eq_true rfl, Nat.le_of_ble_eq_true rfl⟩) ⟨wS.blind, hO.recv hK, fun U hU hW => wS.go hO hK C.hIm hU hW⟩ rfl rfl hl.1 rfl (lv_room (Nat.le_of_ble_eq_true rfl)) dL_law_662 ⟨(by show cells + 1 + 0 ≤ 601024; omega), (by show slots + 6 + 0 ≤ 7293034; omega)⟩) hS (fun q _ h => hAn q h) (fun q h => hAn q h) (fun r_2 u2 t H_2 locs_2 ht hvm hw hB2 hz2 hk2 hS => ?_)
    have hM := hM.at hk2 hmg
    have hLo := (hk2 ao (oA.lt hLo) hmo).trans hLo
    have hDo := (hk2 ad (oA.lt hDo) hmd).trans hDo
    rw [ht] at hB2
    obtain rfl := hw
    refine lv_topi (fun r7 hr7 => ?_)
    refine lv_istore (lv' := [(7, .int r7), (6, .int 1), (0, .ref b), (1, .ref (g 0)), (2, .ref (gm 0)), (3, .ref ao), (4, .ref ad), (5, .int (nI (4 * n)))]) hx hb dL_law_665 hl (by decide) rfl (fun ls hl => ?_)
    refine lv_aload_n hx hb dL_law_667 rfl (lv_at hl 4 rfl) ?_
    refine va_calli (va_runV (As := []) (rest := []) ⟨hx, hb, hml, hown, hts⟩ (c_X6_thrown_ok l E gm 1 ln bf y.1 y.2.1 y.2.2.1 y.2.2.2 ke ms) (cwV 0 hts gL_law_X6_thrown rfl rfl rfl (by decide +kernel) ⟨Nat.le_of_ble_eq_true rfl, Nat.le_of_ble_eq_true rfl⟩) ⟨wS.blind, MOB.recv hK hB2, fun U hU hW => wS.go hB2 hK C.hIm hU hW⟩ rfl rfl hl.1 rfl (lv_room (Nat.le_of_ble_eq_true rfl)) dL_law_668 ⟨(by show cells + 1 + 0 + 0 ≤ 601024; omega), (by show slots + 6 + 0 + 0 ≤ 7293034; omega)⟩) hS (fun q _ h => hAn q h) (fun q h => hAn q h) (fun r_3 u3 t H_3 locs_3 ht hvm hw hB3 hz3 hk3 hS => ?_)
    have hM := hM.at hk3 hmg
    have hLo := (hk3 ao (oA.lt hLo) hmo).trans hLo
    have hDo := (hk3 ad (oA.lt hDo) hmd).trans hDo
    rw [ht] at hB3
    obtain rfl := hw
    refine lv_iload hx hb dL_law_671 (lv_at hl 1 rfl) ?_
    refine lv_icmp_eq (tgt := 678) hx hb dL_law_673 rfl (fun _ => ?_) (fun h => absurd rfl h)
    refine lv_iload hx hb dL_law_678 (lv_at hl 1 rfl) ?_
    refine lv_if_ne (tgt := 695) hx hb dL_law_680 rfl (fun _ => ?_) (fun h => absurd h (by decide))
    refine lv_goto (tgt := 1485) hx hb dL_law_695 rfl ?_
    refine W.widen (k := cells + 3) (n := slots + 18) (by omega) (by omega) (kk _ _ _ ⟨ln, bf, z, (y.1, y.2.1, y.2.2.1, y.2.2.2), ke, hs, ms, 1, cd, _, _, hM, hB3, RZ_le hZ (by omega), RHs_le hR (by omega), hcd, hLo, hDo⟩ hS (lv_sub hl [2, 3, 4, 5, 6, 7] rfl))
set_option maxHeartbeats 4000000 in
set_option maxRecDepth 100000 in
theorem law_mix {p : Program} {l : Launch} {e : Env} {s : State} {m : MethodId} {below : List Frame} {meth : Method} {c : Code} {b L : Nat} {xs : Nat → Int32} {E : wE} {cL cD : ClassId} {g gm : Nat → Nat} {ao ad : Nat} (C : LC p l s m meth c b L xs E cL cD g gm ao ad) {n B : Nat} (hn : 4 * n + 4 ≤ L) (hB : B ≤ 60000) {H : Heap} {locs : List Loc} {cells slots : Nat} {ls : Array Slot} {Q : State → Prop} (hcl9 : cells + 3 ≤ 601024) (hsl9 : slots + 18 ≤ 7293034) (hI : LI E cL cD g gm ao ad B H) (hS : va_S (lwA s) s.heap H locs)
    (hl : lv_has ls 9 [(0, .ref b), (1, .ref (g 0)), (2, .ref (gm 0)), (3, .ref ao), (4, .ref ad), (5, .int (nI (4 * n)))])
    (kk : ∀ (H2 : Heap) (locs2 : List Loc) (ls2 : Array Slot), LI E cL cD g gm ao ad (B + 100) H2 → va_S (lwA s) s.heap H2 locs2 → lv_has ls2 9 [(0, .ref b), (1, .ref (g 0)), (2, .ref (gm 0)), (3, .ref ao), (4, .ref ad), (5, .int (nI (4 * n)))] → W p l e room_1 s m #[Value.ref b] below meth c H2 locs2 (cells + 3) (slots + 18) Q (F0 m 1485 ls2 [])) : W p l e room_1 s m #[Value.ref b] below meth c H locs cells slots Q (F0 m 698 ls []) := by
  have hx := C.hx
  have hb := C.hb
  have hml := C.hml
  have hown := C.hown
  have hts := C.hts
  have hX := C.hX
  have hbl := C.hbl
  have hst := C.hst
  have hL := C.hL
  have hK := C.hK
  have hKL := C.hKL
  have hxe := C.hxe
  have hxc := C.hxc
  obtain ⟨ln, bf, z, y, ke, hs, ms, th, cd, x0, d0, hM, hO, hZ, hR, hcd, hLo, hDo⟩ := hI
  have hzr := hM.rng
  have hAn : ∀ q, wF 6 gm q → lwA s q := by rintro q ⟨k, hk, rfl⟩; exact C.hAm k hk
  have hmg : ∀ k, k < 94 → ¬ wF 6 gm (g k) := by rintro k hk ⟨j, hj, e9⟩; exact C.ngm k j hk hj e9
  have hmo : ¬ wF 6 gm ao := by rintro ⟨j, hj, e9⟩; exact C.nmo j hj e9.symm
  have hmd : ¬ wF 6 gm ad := by rintro ⟨j, hj, e9⟩; exact C.nmd j hj e9.symm
  have hAw : ∀ q, wA g ao q → lwA s q := by
    rintro q (⟨k, hk, rfl⟩ | rfl)
    · exact C.hAg k hk
    · exact C.hAo
  have hwm : ∀ k, k < 6 → ¬ wA g ao (gm k) := by
    rintro k hk (⟨j, hj, e9⟩ | e9)
    · exact C.ngm j k hj hk e9.symm
    · exact C.nmo k hk e9
  have hwo : ¬ wA g ao ad := by
    rintro (⟨j, hj, e9⟩ | e9)
    · exact C.ngd j hj e9.symm
    · exact C.nod e9.symm
  obtain ⟨w1, hw1⟩ : ∃ w, xs (4 * n + 1) = w := ⟨_, rfl⟩
  obtain ⟨w2, hw2⟩ : ∃ w, xs (4 * n + 2) = w := ⟨_, rfl⟩
  refine lv_aload_n hx hb dL_law_698 rfl (lv_at hl 1 rfl) ?_
  refine sc_load hx hb hX hbl hS hL hn (j := 1) (by decide) hw1 (lv_at hl 0 rfl) (lv_at hl 5 rfl) (by decide) dL_law_699 dL_law_700 dL_law_702 dL_law_703 dL_law_704 ?_
  refine sc_load hx hb hX hbl hS hL hn (j := 2) (by decide) hw2 (lv_at hl 0 rfl) (lv_at hl 5 rfl) (by decide) dL_law_705 dL_law_706 dL_law_708 dL_law_709 dL_law_710 ?_
  refine lv_aload_n hx hb dL_law_711 rfl (lv_at hl 3 rfl) ?_
  refine va_calli (vx_runSW (As := [.ref (g 0), .int w1, .int w2, .ref ao]) (rest := []) ⟨hx, hb, hml, hown, hts⟩ (c_L_mix l hst cL cD ao E g ln bf z ke hs w1 w2) (vx_cwSW 4 hts gL_law_L_mix rfl rfl rfl (by decide +kernel) ⟨Nat.le_of_ble_eq_true rfl, Nat.le_of_ble_eq_true rfl⟩) ⟨wL.blind, fun U hU hW => wL.go hM ⟨_, hLo⟩ hK hKL C.hI C.ngo hxe hxc hS hAw hU hW⟩ rfl rfl hl.1 rfl (lv_room (Nat.le_of_ble_eq_true rfl)) dL_law_712 ⟨Nat.le_trans (Nat.add_le_add_left (by decide) cells) hcl9, Nat.le_trans (Nat.add_le_add_left (by decide) slots) hsl9⟩) hS (fun q _ h => hAw q h) (fun q h => hAw q h) (fun r_1 u1 t H_1 locs_1 ht hvm hw hB1 hz1 hk1 hS => ?_)
  obtain rfl : r_1 = u1 := hw
  rw [ht] at hB1
  have hO := hO.at hk1 hwm
  have hDo := (hk1 ad hDo.lt hwo).trans hDo
  clear hLo hM
  rcases hB1 with ⟨rfl, hc, hLo, hM⟩ | ⟨rfl, hc, ⟨x1, hLo⟩, hM⟩
  · skip
    obtain ⟨k0, hk0, rfl⟩ := i_in hc.1 (by decide)
    obtain ⟨jj, hjj, rfl⟩ := i_in hc.2 (by decide)
    have hcls : (nI k0).toNatClampNeg = k0 ∧ (nI jj).toNatClampNeg = jj := ⟨nI_clamp (by omega), nI_clamp (by omega)⟩
    simp only [hcls] at hM hLo
    refine lv_istore (lv' := [(6, .int 0), (0, .ref b), (1, .ref (g 0)), (2, .ref (gm 0)), (3, .ref ao), (4, .ref ad), (5, .int (nI (4 * n)))]) hx hb dL_law_715 hl (by decide) rfl (fun ls hl => ?_)
    refine lv_aload_n hx hb dL_law_717 rfl (lv_at hl 3 rfl) ?_
    refine sc_load hx hb hX hbl hS hL hn (j := 1) (by decide) hw1 (lv_at hl 1 rfl) (lv_at hl 6 rfl) (by decide) dL_law_718 dL_law_719 dL_law_721 dL_law_722 dL_law_723 ?_
    refine sc_load hx hb hX hbl hS hL hn (j := 2) (by decide) hw2 (lv_at hl 1 rfl) (lv_at hl 6 rfl) (by decide) dL_law_724 dL_law_725 dL_law_727 dL_law_728 dL_law_729 ?_
    refine va_calli (va_runV (As := [_, _]) (rest := []) ⟨hx, hb, hml, hown, hts⟩ (c_X6_mix_ok l E gm th ln bf y.1 y.2.1 y.2.2.1 y.2.2.2 ke ms k0 jj hk0 hjj) (cwV 2 hts gL_law_X6_mix rfl rfl rfl (by decide +kernel) ⟨Nat.le_of_ble_eq_true rfl, Nat.le_of_ble_eq_true rfl⟩) ⟨wS.blind, hO.recv hK, fun U hU hW => wS.go hO hK C.hIm hU hW⟩ rfl rfl hl.1 rfl (lv_room (Nat.le_of_ble_eq_true rfl)) dL_law_730 ⟨(by show cells + 2 + 0 ≤ 601024; omega), (by show slots + 12 + 0 ≤ 7293034; omega)⟩) hS (fun q _ h => hAn q h) (fun q h => hAn q h) (fun r_2 u2 t H_2 locs_2 ht hvm hw hB2 hz2 hk2 hS => ?_)
    have hM := hM.at hk2 hmg
    have hLo := (hk2 ao (oA.lt hLo) hmo).trans hLo
    have hDo := (hk2 ad (oA.lt hDo) hmd).trans hDo
    rw [ht] at hB2
    obtain rfl := hw
    refine lv_topi (fun r7 hr7 => ?_)
    refine lv_istore (lv' := [(7, .int r7), (6, .int 0), (0, .ref b), (1, .ref (g 0)), (2, .ref (gm 0)), (3, .ref ao), (4, .ref ad), (5, .int (nI (4 * n)))]) hx hb dL_law_733 hl (by decide) rfl (fun ls hl => ?_)
    refine lv_aload_n hx hb dL_law_735 rfl (lv_at hl 4 rfl) ?_
    refine va_calli (va_runV (As := []) (rest := []) ⟨hx, hb, hml, hown, hts⟩ (c_X6_thrown_ok l E gm 0 ln bf y.1 y.2.1 y.2.2.1 y.2.2.2 ke ms) (cwV 0 hts gL_law_X6_thrown rfl rfl rfl (by decide +kernel) ⟨Nat.le_of_ble_eq_true rfl, Nat.le_of_ble_eq_true rfl⟩) ⟨wS.blind, MOB.recv hK hB2, fun U hU hW => wS.go hB2 hK C.hIm hU hW⟩ rfl rfl hl.1 rfl (lv_room (Nat.le_of_ble_eq_true rfl)) dL_law_736 ⟨(by show cells + 2 + 0 + 0 ≤ 601024; omega), (by show slots + 12 + 0 + 0 ≤ 7293034; omega)⟩) hS (fun q _ h => hAn q h) (fun q h => hAn q h) (fun r_3 u3 t H_3 locs_3 ht hvm hw hB3 hz3 hk3 hS => ?_)
    have hM := hM.at hk3 hmg
    have hLo := (hk3 ao (oA.lt hLo) hmo).trans hLo
    have hDo := (hk3 ad (oA.lt hDo) hmd).trans hDo
    rw [ht] at hB3
    obtain rfl := hw
    refine lv_iload hx hb dL_law_739 (lv_at hl 1 rfl) ?_
    refine lv_icmp_eq (tgt := 746) hx hb dL_law_741 rfl (fun _ => ?_) (fun h => absurd rfl h)
    refine lv_iload hx hb dL_law_746 (lv_at hl 1 rfl) ?_
    refine lv_if_ne (tgt := 763) hx hb dL_law_748 rfl (fun h => absurd rfl h) (fun _ => ?_)
    have hLo := oA_eq hLo ((a_mix hZ k0 jj).trans hr7.symm)
    refine lv_aload_n hx hb dL_law_751 rfl (lv_at hl 5 rfl) ?_
    refine lv_iconst (v := 0) hx hb dL_law_752 (by decide) ?_
    refine w_lald hx hb hKL hLo dL_law_753 ?_
    refine lv_iload hx hb dL_law_754 (lv_at hl 0 rfl) ?_
    refine lv_i2l hx hb dL_law_756 rfl ?_
    refine W.lcmp hx hb dL_law_757 ?_
    rw [lg_same]
    refine lv_if_eq (tgt := 763) hx hb dL_law_758 rfl (fun _ => ?_) (fun h => absurd rfl h)
    refine lv_goto (tgt := 1485) hx hb dL_law_763 rfl ?_
    refine W.widen (k := cells + 3) (n := slots + 18) (by omega) (by omega) (kk _ _ _ ⟨ln, bf, z, (y.1, y.2.1, y.2.2.1, y.2.2.2), ke, hs, ms, 0, cd, _, _, hM, hB3, RZ_le hZ (by omega), RHs_le hR (by omega), hcd, hLo, hDo⟩ hS (lv_sub hl [2, 3, 4, 5, 6, 7] rfl))
  · by_cases hq : vp_in w1 10000
    · skip
      refine lv_istore (lv' := [(6, .int 1), (0, .ref b), (1, .ref (g 0)), (2, .ref (gm 0)), (3, .ref ao), (4, .ref ad), (5, .int (nI (4 * n)))]) hx hb dL_law_715 hl (by decide) rfl (fun ls hl => ?_)
      refine lv_aload_n hx hb dL_law_717 rfl (lv_at hl 3 rfl) ?_
      refine sc_load hx hb hX hbl hS hL hn (j := 1) (by decide) hw1 (lv_at hl 1 rfl) (lv_at hl 6 rfl) (by decide) dL_law_718 dL_law_719 dL_law_721 dL_law_722 dL_law_723 ?_
      refine sc_load hx hb hX hbl hS hL hn (j := 2) (by decide) hw2 (lv_at hl 1 rfl) (lv_at hl 6 rfl) (by decide) dL_law_724 dL_law_725 dL_law_727 dL_law_728 dL_law_729 ?_
      refine va_calli (va_runV (As := [_, _]) (rest := []) ⟨hx, hb, hml, hown, hts⟩ (c_X6_mix_no2 l E gm th ln bf y.1 y.2.1 y.2.2.1 y.2.2.2 ke ms w1 w2 (inB_v (n := 10000) rfl (by decide) (by decide) hq) (inB_f (n := 3) rfl (by decide) (by decide) (fun q => hc ⟨hq, q⟩))) (cwV 2 hts gL_law_X6_mix rfl rfl rfl (by decide +kernel) ⟨Nat.le_of_ble_eq_true rfl, Nat.le_of_ble_eq_true rfl⟩) ⟨wS.blind, hO.recv hK, fun U hU hW => wS.go hO hK C.hIm hU hW⟩ rfl rfl hl.1 rfl (lv_room (Nat.le_of_ble_eq_true rfl)) dL_law_730 ⟨(by show cells + 2 + 0 ≤ 601024; omega), (by show slots + 12 + 0 ≤ 7293034; omega)⟩) hS (fun q _ h => hAn q h) (fun q h => hAn q h) (fun r_2 u2 t H_2 locs_2 ht hvm hw hB2 hz2 hk2 hS => ?_)
      have hM := hM.at hk2 hmg
      have hLo := (hk2 ao (oA.lt hLo) hmo).trans hLo
      have hDo := (hk2 ad (oA.lt hDo) hmd).trans hDo
      rw [ht] at hB2
      obtain rfl := hw
      refine lv_topi (fun r7 hr7 => ?_)
      refine lv_istore (lv' := [(7, .int r7), (6, .int 1), (0, .ref b), (1, .ref (g 0)), (2, .ref (gm 0)), (3, .ref ao), (4, .ref ad), (5, .int (nI (4 * n)))]) hx hb dL_law_733 hl (by decide) rfl (fun ls hl => ?_)
      refine lv_aload_n hx hb dL_law_735 rfl (lv_at hl 4 rfl) ?_
      refine va_calli (va_runV (As := []) (rest := []) ⟨hx, hb, hml, hown, hts⟩ (c_X6_thrown_ok l E gm 1 ln bf y.1 y.2.1 y.2.2.1 y.2.2.2 ke ms) (cwV 0 hts gL_law_X6_thrown rfl rfl rfl (by decide +kernel) ⟨Nat.le_of_ble_eq_true rfl, Nat.le_of_ble_eq_true rfl⟩) ⟨wS.blind, MOB.recv hK hB2, fun U hU hW => wS.go hB2 hK C.hIm hU hW⟩ rfl rfl hl.1 rfl (lv_room (Nat.le_of_ble_eq_true rfl)) dL_law_736 ⟨(by show cells + 2 + 0 + 0 ≤ 601024; omega), (by show slots + 12 + 0 + 0 ≤ 7293034; omega)⟩) hS (fun q _ h => hAn q h) (fun q h => hAn q h) (fun r_3 u3 t H_3 locs_3 ht hvm hw hB3 hz3 hk3 hS => ?_)
      have hM := hM.at hk3 hmg
      have hLo := (hk3 ao (oA.lt hLo) hmo).trans hLo
      have hDo := (hk3 ad (oA.lt hDo) hmd).trans hDo
      rw [ht] at hB3
      obtain rfl := hw
      refine lv_iload hx hb dL_law_739 (lv_at hl 1 rfl) ?_
      refine lv_icmp_eq (tgt := 746) hx hb dL_law_741 rfl (fun _ => ?_) (fun h => absurd rfl h)
      refine lv_iload hx hb dL_law_746 (lv_at hl 1 rfl) ?_
      refine lv_if_ne (tgt := 763) hx hb dL_law_748 rfl (fun _ => ?_) (fun h => absurd h (by decide))
      refine lv_goto (tgt := 1485) hx hb dL_law_763 rfl ?_
      refine W.widen (k := cells + 3) (n := slots + 18) (by omega) (by omega) (kk _ _ _ ⟨ln, bf, z, (y.1, y.2.1, y.2.2.1, y.2.2.2), ke, hs, ms, 1, cd, _, _, hM, hB3, RZ_le hZ (by omega), RHs_le hR (by omega), hcd, hLo, hDo⟩ hS (lv_sub hl [2, 3, 4, 5, 6, 7] rfl))
    · skip
      refine lv_istore (lv' := [(6, .int 1), (0, .ref b), (1, .ref (g 0)), (2, .ref (gm 0)), (3, .ref ao), (4, .ref ad), (5, .int (nI (4 * n)))]) hx hb dL_law_715 hl (by decide) rfl (fun ls hl => ?_)
      refine lv_aload_n hx hb dL_law_717 rfl (lv_at hl 3 rfl) ?_
      refine sc_load hx hb hX hbl hS hL hn (j := 1) (by decide) hw1 (lv_at hl 1 rfl) (lv_at hl 6 rfl) (by decide) dL_law_718 dL_law_719 dL_law_721 dL_law_722 dL_law_723 ?_
      refine sc_load hx hb hX hbl hS hL hn (j := 2) (by decide) hw2 (lv_at hl 1 rfl) (lv_at hl 6 rfl) (by decide) dL_law_724 dL_law_725 dL_law_727 dL_law_728 dL_law_729 ?_
      refine va_calli (va_runV (As := [_, _]) (rest := []) ⟨hx, hb, hml, hown, hts⟩ (c_X6_mix_no1 l E gm th ln bf y.1 y.2.1 y.2.2.1 y.2.2.2 ke ms w1 w2 (inB_f (n := 10000) rfl (by decide) (by decide) hq)) (cwV 2 hts gL_law_X6_mix rfl rfl rfl (by decide +kernel) ⟨Nat.le_of_ble_eq_true rfl, Nat.le_of_ble_eq_true rfl⟩) ⟨wS.blind, hO.recv hK, fun U hU hW => wS.go hO hK C.hIm hU hW⟩ rfl rfl hl.1 rfl (lv_room (Nat.le_of_ble_eq_true rfl)) dL_law_730 ⟨(by show cells + 2 + 0 ≤ 601024; omega), (by show slots + 12 + 0 ≤ 7293034; omega)⟩) hS (fun q _ h => hAn q h) (fun q h => hAn q h) (fun r_2 u2 t H_2 locs_2 ht hvm hw hB2 hz2 hk2 hS => ?_)
      have hM := hM.at hk2 hmg
      have hLo := (hk2 ao (oA.lt hLo) hmo).trans hLo
      have hDo := (hk2 ad (oA.lt hDo) hmd).trans hDo
      rw [ht] at hB2
      obtain rfl := hw
      refine lv_topi (fun r7 hr7 => ?_)
      refine lv_istore (lv' := [(7, .int r7), (6, .int 1), (0, .ref b), (1, .ref (g 0)), (2, .ref (gm 0)), (3, .ref ao), (4, .ref ad), (5, .int (nI (4 * n)))]) hx hb dL_law_733 hl (by decide) rfl (fun ls hl => ?_)
      refine lv_aload_n hx hb dL_law_735 rfl (lv_at hl 4 rfl) ?_
      refine va_calli (va_runV (As := []) (rest := []) ⟨hx, hb, hml, hown, hts⟩ (c_X6_thrown_ok l E gm 1 ln bf y.1 y.2.1 y.2.2.1 y.2.2.2 ke ms) (cwV 0 hts gL_law_X6_thrown rfl rfl rfl (by decide +kernel) ⟨Nat.le_of_ble_eq_true rfl, Nat.le_of_ble_eq_true rfl⟩) ⟨wS.blind, MOB.recv hK hB2, fun U hU hW => wS.go hB2 hK C.hIm hU hW⟩ rfl rfl hl.1 rfl (lv_room (Nat.le_of_ble_eq_true rfl)) dL_law_736 ⟨(by show cells + 2 + 0 + 0 ≤ 601024; omega), (by show slots + 12 + 0 + 0 ≤ 7293034; omega)⟩) hS (fun q _ h => hAn q h) (fun q h => hAn q h) (fun r_3 u3 t H_3 locs_3 ht hvm hw hB3 hz3 hk3 hS => ?_)
      have hM := hM.at hk3 hmg
      have hLo := (hk3 ao (oA.lt hLo) hmo).trans hLo
      have hDo := (hk3 ad (oA.lt hDo) hmd).trans hDo
      rw [ht] at hB3
      obtain rfl := hw
      refine lv_iload hx hb dL_law_739 (lv_at hl 1 rfl) ?_
      refine lv_icmp_eq (tgt := 746) hx hb dL_law_741 rfl (fun _ => ?_) (fun h => absurd rfl h)
      refine lv_iload hx hb dL_law_746 (lv_at hl 1 rfl) ?_
      refine lv_if_ne (tgt := 763) hx hb dL_law_748 rfl (fun _ => ?_) (fun h => absurd h (by decide))
      refine lv_goto (tgt := 1485) hx hb dL_law_763 rfl ?_
      refine W.widen (k := cells + 3) (n := slots + 18) (by omega) (by omega) (kk _ _ _ ⟨ln, bf, z, (y.1, y.2.1, y.2.2.1, y.2.2.2), ke, hs, ms, 1, cd, _, _, hM, hB3, RZ_le hZ (by omega), RHs_le hR (by omega), hcd, hLo, hDo⟩ hS (lv_sub hl [2, 3, 4, 5, 6, 7] rfl))
set_option maxHeartbeats 4000000 in
set_option maxRecDepth 100000 in
theorem law_receiver {p : Program} {l : Launch} {e : Env} {s : State} {m : MethodId} {below : List Frame} {meth : Method} {c : Code} {b L : Nat} {xs : Nat → Int32} {E : wE} {cL cD : ClassId} {g gm : Nat → Nat} {ao ad : Nat} (C : LC p l s m meth c b L xs E cL cD g gm ao ad) {n B : Nat} (hn : 4 * n + 4 ≤ L) (hB : B ≤ 60000) {H : Heap} {locs : List Loc} {cells slots : Nat} {ls : Array Slot} {Q : State → Prop} (hcl9 : cells + 3 ≤ 601024) (hsl9 : slots + 18 ≤ 7293034) (hI : LI E cL cD g gm ao ad B H) (hS : va_S (lwA s) s.heap H locs)
    (hl : lv_has ls 9 [(0, .ref b), (1, .ref (g 0)), (2, .ref (gm 0)), (3, .ref ao), (4, .ref ad), (5, .int (nI (4 * n)))])
    (kk : ∀ (H2 : Heap) (locs2 : List Loc) (ls2 : Array Slot), LI E cL cD g gm ao ad (B + 100) H2 → va_S (lwA s) s.heap H2 locs2 → lv_has ls2 9 [(0, .ref b), (1, .ref (g 0)), (2, .ref (gm 0)), (3, .ref ao), (4, .ref ad), (5, .int (nI (4 * n)))] → W p l e room_1 s m #[Value.ref b] below meth c H2 locs2 (cells + 3) (slots + 18) Q (F0 m 1485 ls2 [])) : W p l e room_1 s m #[Value.ref b] below meth c H locs cells slots Q (F0 m 766 ls []) := by
  have hx := C.hx
  have hb := C.hb
  have hml := C.hml
  have hown := C.hown
  have hts := C.hts
  have hX := C.hX
  have hbl := C.hbl
  have hst := C.hst
  have hL := C.hL
  have hK := C.hK
  have hKL := C.hKL
  have hxe := C.hxe
  have hxc := C.hxc
  obtain ⟨ln, bf, z, y, ke, hs, ms, th, cd, x0, d0, hM, hO, hZ, hR, hcd, hLo, hDo⟩ := hI
  have hzr := hM.rng
  have hAn : ∀ q, wF 6 gm q → lwA s q := by rintro q ⟨k, hk, rfl⟩; exact C.hAm k hk
  have hmg : ∀ k, k < 94 → ¬ wF 6 gm (g k) := by rintro k hk ⟨j, hj, e9⟩; exact C.ngm k j hk hj e9
  have hmo : ¬ wF 6 gm ao := by rintro ⟨j, hj, e9⟩; exact C.nmo j hj e9.symm
  have hmd : ¬ wF 6 gm ad := by rintro ⟨j, hj, e9⟩; exact C.nmd j hj e9.symm
  have hAw : ∀ q, wA g ao q → lwA s q := by
    rintro q (⟨k, hk, rfl⟩ | rfl)
    · exact C.hAg k hk
    · exact C.hAo
  have hwm : ∀ k, k < 6 → ¬ wA g ao (gm k) := by
    rintro k hk (⟨j, hj, e9⟩ | e9)
    · exact C.ngm j k hj hk e9.symm
    · exact C.nmo k hk e9
  have hwo : ¬ wA g ao ad := by
    rintro (⟨j, hj, e9⟩ | e9)
    · exact C.ngd j hj e9.symm
    · exact C.nod e9.symm
  obtain ⟨w1, hw1⟩ : ∃ w, xs (4 * n + 1) = w := ⟨_, rfl⟩
  obtain ⟨w2, hw2⟩ : ∃ w, xs (4 * n + 2) = w := ⟨_, rfl⟩
  refine lv_aload_n hx hb dL_law_766 rfl (lv_at hl 1 rfl) ?_
  refine sc_load hx hb hX hbl hS hL hn (j := 1) (by decide) hw1 (lv_at hl 0 rfl) (lv_at hl 5 rfl) (by decide) dL_law_767 dL_law_768 dL_law_770 dL_law_771 dL_law_772 ?_
  refine sc_load hx hb hX hbl hS hL hn (j := 2) (by decide) hw2 (lv_at hl 0 rfl) (lv_at hl 5 rfl) (by decide) dL_law_773 dL_law_774 dL_law_776 dL_law_777 dL_law_778 ?_
  refine lv_aload_n hx hb dL_law_779 rfl (lv_at hl 3 rfl) ?_
  refine va_calli (vx_runSW (As := [.ref (g 0), .int w1, .int w2, .ref ao]) (rest := []) ⟨hx, hb, hml, hown, hts⟩ (c_L_receiver l hst cL cD ao E g ln bf z ke hs w1 w2) (vx_cwSW 4 hts gL_law_L_receiver rfl rfl rfl (by decide +kernel) ⟨Nat.le_of_ble_eq_true rfl, Nat.le_of_ble_eq_true rfl⟩) ⟨wL.blind, fun U hU hW => wL.go hM ⟨_, hLo⟩ hK hKL C.hI C.ngo hxe hxc hS hAw hU hW⟩ rfl rfl hl.1 rfl (lv_room (Nat.le_of_ble_eq_true rfl)) dL_law_780 ⟨Nat.le_trans (Nat.add_le_add_left (by decide) cells) hcl9, Nat.le_trans (Nat.add_le_add_left (by decide) slots) hsl9⟩) hS (fun q _ h => hAw q h) (fun q h => hAw q h) (fun r_1 u1 t H_1 locs_1 ht hvm hw hB1 hz1 hk1 hS => ?_)
  obtain rfl : r_1 = u1 := hw
  rw [ht] at hB1
  have hO := hO.at hk1 hwm
  have hDo := (hk1 ad hDo.lt hwo).trans hDo
  clear hLo hM
  rcases hB1 with ⟨rfl, hc, hLo, hM⟩ | ⟨rfl, hc, ⟨x1, hLo⟩, hM⟩ | ⟨rfl, hc, ⟨x1, hLo⟩, hM⟩
  · skip
    obtain ⟨uu, huu, rfl⟩ := i_in hc.1 (by decide)
    obtain ⟨jj, hjj, rfl⟩ := i_in hc.2 (by decide)
    have hcls : (nI uu).toNatClampNeg = uu ∧ (nI jj).toNatClampNeg = jj := ⟨nI_clamp (by omega), nI_clamp (by omega)⟩
    simp only [hcls] at hM hLo
    refine lv_istore (lv' := [(6, .int 0), (0, .ref b), (1, .ref (g 0)), (2, .ref (gm 0)), (3, .ref ao), (4, .ref ad), (5, .int (nI (4 * n)))]) hx hb dL_law_783 hl (by decide) rfl (fun ls hl => ?_)
    refine lv_aload_n hx hb dL_law_785 rfl (lv_at hl 3 rfl) ?_
    refine sc_load hx hb hX hbl hS hL hn (j := 1) (by decide) hw1 (lv_at hl 1 rfl) (lv_at hl 6 rfl) (by decide) dL_law_786 dL_law_787 dL_law_789 dL_law_790 dL_law_791 ?_
    refine sc_load hx hb hX hbl hS hL hn (j := 2) (by decide) hw2 (lv_at hl 1 rfl) (lv_at hl 6 rfl) (by decide) dL_law_792 dL_law_793 dL_law_795 dL_law_796 dL_law_797 ?_
    refine va_calli (va_runV (As := [_, _]) (rest := []) ⟨hx, hb, hml, hown, hts⟩ (c_X6_receiver_ok l E gm th ln bf y.1 y.2.1 y.2.2.1 y.2.2.2 ke ms uu huu jj hjj) (cwV 2 hts gL_law_X6_receiver rfl rfl rfl (by decide +kernel) ⟨Nat.le_of_ble_eq_true rfl, Nat.le_of_ble_eq_true rfl⟩) ⟨wS.blind, hO.recv hK, fun U hU hW => wS.go hO hK C.hIm hU hW⟩ rfl rfl hl.1 rfl (lv_room (Nat.le_of_ble_eq_true rfl)) dL_law_798 ⟨(by show cells + 2 + 0 ≤ 601024; omega), (by show slots + 12 + 0 ≤ 7293034; omega)⟩) hS (fun q _ h => hAn q h) (fun q h => hAn q h) (fun r_2 u2 t H_2 locs_2 ht hvm hw hB2 hz2 hk2 hS => ?_)
    have hM := hM.at hk2 hmg
    have hLo := (hk2 ao (oA.lt hLo) hmo).trans hLo
    have hDo := (hk2 ad (oA.lt hDo) hmd).trans hDo
    rw [ht] at hB2
    obtain rfl := hw
    refine lv_topi (fun r7 hr7 => ?_)
    refine lv_istore (lv' := [(7, .int r7), (6, .int 0), (0, .ref b), (1, .ref (g 0)), (2, .ref (gm 0)), (3, .ref ao), (4, .ref ad), (5, .int (nI (4 * n)))]) hx hb dL_law_801 hl (by decide) rfl (fun ls hl => ?_)
    refine lv_aload_n hx hb dL_law_803 rfl (lv_at hl 4 rfl) ?_
    refine va_calli (va_runV (As := []) (rest := []) ⟨hx, hb, hml, hown, hts⟩ (c_X6_thrown_ok l E gm 0 ln bf y.1 y.2.1 y.2.2.1 y.2.2.2 ke ms) (cwV 0 hts gL_law_X6_thrown rfl rfl rfl (by decide +kernel) ⟨Nat.le_of_ble_eq_true rfl, Nat.le_of_ble_eq_true rfl⟩) ⟨wS.blind, MOB.recv hK hB2, fun U hU hW => wS.go hB2 hK C.hIm hU hW⟩ rfl rfl hl.1 rfl (lv_room (Nat.le_of_ble_eq_true rfl)) dL_law_804 ⟨(by show cells + 2 + 0 + 0 ≤ 601024; omega), (by show slots + 12 + 0 + 0 ≤ 7293034; omega)⟩) hS (fun q _ h => hAn q h) (fun q h => hAn q h) (fun r_3 u3 t H_3 locs_3 ht hvm hw hB3 hz3 hk3 hS => ?_)
    have hM := hM.at hk3 hmg
    have hLo := (hk3 ao (oA.lt hLo) hmo).trans hLo
    have hDo := (hk3 ad (oA.lt hDo) hmd).trans hDo
    rw [ht] at hB3
    obtain rfl := hw
    refine lv_iload hx hb dL_law_807 (lv_at hl 1 rfl) ?_
    refine lv_icmp_eq (tgt := 814) hx hb dL_law_809 rfl (fun _ => ?_) (fun h => absurd rfl h)
    refine lv_iload hx hb dL_law_814 (lv_at hl 1 rfl) ?_
    refine lv_if_ne (tgt := 831) hx hb dL_law_816 rfl (fun h => absurd rfl h) (fun _ => ?_)
    have hLo := oA_eq hLo ((a_num hZ huu jj).trans hr7.symm)
    refine lv_aload_n hx hb dL_law_819 rfl (lv_at hl 5 rfl) ?_
    refine lv_iconst (v := 0) hx hb dL_law_820 (by decide) ?_
    refine w_lald hx hb hKL hLo dL_law_821 ?_
    refine lv_iload hx hb dL_law_822 (lv_at hl 0 rfl) ?_
    refine lv_i2l hx hb dL_law_824 rfl ?_
    refine W.lcmp hx hb dL_law_825 ?_
    rw [lg_same]
    refine lv_if_eq (tgt := 831) hx hb dL_law_826 rfl (fun _ => ?_) (fun h => absurd rfl h)
    refine lv_goto (tgt := 1485) hx hb dL_law_831 rfl ?_
    refine W.widen (k := cells + 3) (n := slots + 18) (by omega) (by omega) (kk _ _ _ ⟨ln, bf, z, (y.1, y.2.1, y.2.2.1, y.2.2.2), ke, hs, ms, 0, cd, _, _, hM, hB3, RZ_le hZ (by omega), RHs_le hR (by omega), hcd, hLo, hDo⟩ hS (lv_sub hl [2, 3, 4, 5, 6, 7] rfl))
  · skip
    refine lv_istore (lv' := [(6, .int 1), (0, .ref b), (1, .ref (g 0)), (2, .ref (gm 0)), (3, .ref ao), (4, .ref ad), (5, .int (nI (4 * n)))]) hx hb dL_law_783 hl (by decide) rfl (fun ls hl => ?_)
    refine lv_aload_n hx hb dL_law_785 rfl (lv_at hl 3 rfl) ?_
    refine sc_load hx hb hX hbl hS hL hn (j := 1) (by decide) hw1 (lv_at hl 1 rfl) (lv_at hl 6 rfl) (by decide) dL_law_786 dL_law_787 dL_law_789 dL_law_790 dL_law_791 ?_
    refine sc_load hx hb hX hbl hS hL hn (j := 2) (by decide) hw2 (lv_at hl 1 rfl) (lv_at hl 6 rfl) (by decide) dL_law_792 dL_law_793 dL_law_795 dL_law_796 dL_law_797 ?_
    refine va_calli (va_runV (As := [_, _]) (rest := []) ⟨hx, hb, hml, hown, hts⟩ (c_X6_receiver_no1 l E gm th ln bf y.1 y.2.1 y.2.2.1 y.2.2.2 ke ms w1 w2 (inB_f (n := 3) rfl (by decide) (by decide) hc)) (cwV 2 hts gL_law_X6_receiver rfl rfl rfl (by decide +kernel) ⟨Nat.le_of_ble_eq_true rfl, Nat.le_of_ble_eq_true rfl⟩) ⟨wS.blind, hO.recv hK, fun U hU hW => wS.go hO hK C.hIm hU hW⟩ rfl rfl hl.1 rfl (lv_room (Nat.le_of_ble_eq_true rfl)) dL_law_798 ⟨(by show cells + 2 + 0 ≤ 601024; omega), (by show slots + 12 + 0 ≤ 7293034; omega)⟩) hS (fun q _ h => hAn q h) (fun q h => hAn q h) (fun r_2 u2 t H_2 locs_2 ht hvm hw hB2 hz2 hk2 hS => ?_)
    have hM := hM.at hk2 hmg
    have hLo := (hk2 ao (oA.lt hLo) hmo).trans hLo
    have hDo := (hk2 ad (oA.lt hDo) hmd).trans hDo
    rw [ht] at hB2
    obtain rfl := hw
    refine lv_topi (fun r7 hr7 => ?_)
    refine lv_istore (lv' := [(7, .int r7), (6, .int 1), (0, .ref b), (1, .ref (g 0)), (2, .ref (gm 0)), (3, .ref ao), (4, .ref ad), (5, .int (nI (4 * n)))]) hx hb dL_law_801 hl (by decide) rfl (fun ls hl => ?_)
    refine lv_aload_n hx hb dL_law_803 rfl (lv_at hl 4 rfl) ?_
    refine va_calli (va_runV (As := []) (rest := []) ⟨hx, hb, hml, hown, hts⟩ (c_X6_thrown_ok l E gm 1 ln bf y.1 y.2.1 y.2.2.1 y.2.2.2 ke ms) (cwV 0 hts gL_law_X6_thrown rfl rfl rfl (by decide +kernel) ⟨Nat.le_of_ble_eq_true rfl, Nat.le_of_ble_eq_true rfl⟩) ⟨wS.blind, MOB.recv hK hB2, fun U hU hW => wS.go hB2 hK C.hIm hU hW⟩ rfl rfl hl.1 rfl (lv_room (Nat.le_of_ble_eq_true rfl)) dL_law_804 ⟨(by show cells + 2 + 0 + 0 ≤ 601024; omega), (by show slots + 12 + 0 + 0 ≤ 7293034; omega)⟩) hS (fun q _ h => hAn q h) (fun q h => hAn q h) (fun r_3 u3 t H_3 locs_3 ht hvm hw hB3 hz3 hk3 hS => ?_)
    have hM := hM.at hk3 hmg
    have hLo := (hk3 ao (oA.lt hLo) hmo).trans hLo
    have hDo := (hk3 ad (oA.lt hDo) hmd).trans hDo
    rw [ht] at hB3
    obtain rfl := hw
    refine lv_iload hx hb dL_law_807 (lv_at hl 1 rfl) ?_
    refine lv_icmp_eq (tgt := 814) hx hb dL_law_809 rfl (fun _ => ?_) (fun h => absurd rfl h)
    refine lv_iload hx hb dL_law_814 (lv_at hl 1 rfl) ?_
    refine lv_if_ne (tgt := 831) hx hb dL_law_816 rfl (fun _ => ?_) (fun h => absurd h (by decide))
    refine lv_goto (tgt := 1485) hx hb dL_law_831 rfl ?_
    refine W.widen (k := cells + 3) (n := slots + 18) (by omega) (by omega) (kk _ _ _ ⟨ln, bf, z, (y.1, y.2.1, y.2.2.1, y.2.2.2), ke, hs, ms, 1, cd, _, _, hM, hB3, RZ_le hZ (by omega), RHs_le hR (by omega), hcd, hLo, hDo⟩ hS (lv_sub hl [2, 3, 4, 5, 6, 7] rfl))
  · skip
    refine lv_istore (lv' := [(6, .int 2), (0, .ref b), (1, .ref (g 0)), (2, .ref (gm 0)), (3, .ref ao), (4, .ref ad), (5, .int (nI (4 * n)))]) hx hb dL_law_783 hl (by decide) rfl (fun ls hl => ?_)
    refine lv_aload_n hx hb dL_law_785 rfl (lv_at hl 3 rfl) ?_
    refine sc_load hx hb hX hbl hS hL hn (j := 1) (by decide) hw1 (lv_at hl 1 rfl) (lv_at hl 6 rfl) (by decide) dL_law_786 dL_law_787 dL_law_789 dL_law_790 dL_law_791 ?_
    refine sc_load hx hb hX hbl hS hL hn (j := 2) (by decide) hw2 (lv_at hl 1 rfl) (lv_at hl 6 rfl) (by decide) dL_law_792 dL_law_793 dL_law_795 dL_law_796 dL_law_797 ?_
    refine va_calli (va_runV (As := [_, _]) (rest := []) ⟨hx, hb, hml, hown, hts⟩ (c_X6_receiver_no2 l E gm th ln bf y.1 y.2.1 y.2.2.1 y.2.2.2 ke ms w1 w2 (inB_v (n := 3) rfl (by decide) (by decide) hc.1) (inB_f (n := 9) rfl (by decide) (by decide) hc.2)) (cwV 2 hts gL_law_X6_receiver rfl rfl rfl (by decide +kernel) ⟨Nat.le_of_ble_eq_true rfl, Nat.le_of_ble_eq_true rfl⟩) ⟨wS.blind, hO.recv hK, fun U hU hW => wS.go hO hK C.hIm hU hW⟩ rfl rfl hl.1 rfl (lv_room (Nat.le_of_ble_eq_true rfl)) dL_law_798 ⟨(by show cells + 2 + 0 ≤ 601024; omega), (by show slots + 12 + 0 ≤ 7293034; omega)⟩) hS (fun q _ h => hAn q h) (fun q h => hAn q h) (fun r_2 u2 t H_2 locs_2 ht hvm hw hB2 hz2 hk2 hS => ?_)
    have hM := hM.at hk2 hmg
    have hLo := (hk2 ao (oA.lt hLo) hmo).trans hLo
    have hDo := (hk2 ad (oA.lt hDo) hmd).trans hDo
    rw [ht] at hB2
    obtain rfl := hw
    refine lv_topi (fun r7 hr7 => ?_)
    refine lv_istore (lv' := [(7, .int r7), (6, .int 2), (0, .ref b), (1, .ref (g 0)), (2, .ref (gm 0)), (3, .ref ao), (4, .ref ad), (5, .int (nI (4 * n)))]) hx hb dL_law_801 hl (by decide) rfl (fun ls hl => ?_)
    refine lv_aload_n hx hb dL_law_803 rfl (lv_at hl 4 rfl) ?_
    refine va_calli (va_runV (As := []) (rest := []) ⟨hx, hb, hml, hown, hts⟩ (c_X6_thrown_ok l E gm 2 ln bf y.1 y.2.1 y.2.2.1 y.2.2.2 ke ms) (cwV 0 hts gL_law_X6_thrown rfl rfl rfl (by decide +kernel) ⟨Nat.le_of_ble_eq_true rfl, Nat.le_of_ble_eq_true rfl⟩) ⟨wS.blind, MOB.recv hK hB2, fun U hU hW => wS.go hB2 hK C.hIm hU hW⟩ rfl rfl hl.1 rfl (lv_room (Nat.le_of_ble_eq_true rfl)) dL_law_804 ⟨(by show cells + 2 + 0 + 0 ≤ 601024; omega), (by show slots + 12 + 0 + 0 ≤ 7293034; omega)⟩) hS (fun q _ h => hAn q h) (fun q h => hAn q h) (fun r_3 u3 t H_3 locs_3 ht hvm hw hB3 hz3 hk3 hS => ?_)
    have hM := hM.at hk3 hmg
    have hLo := (hk3 ao (oA.lt hLo) hmo).trans hLo
    have hDo := (hk3 ad (oA.lt hDo) hmd).trans hDo
    rw [ht] at hB3
    obtain rfl := hw
    refine lv_iload hx hb dL_law_807 (lv_at hl 1 rfl) ?_
    refine lv_icmp_eq (tgt := 814) hx hb dL_law_809 rfl (fun _ => ?_) (fun h => absurd rfl h)
    refine lv_iload hx hb dL_law_814 (lv_at hl 1 rfl) ?_
    refine lv_if_ne (tgt := 831) hx hb dL_law_816 rfl (fun _ => ?_) (fun h => absurd h (by decide))
    refine lv_goto (tgt := 1485) hx hb dL_law_831 rfl ?_
    refine W.widen (k := cells + 3) (n := slots + 18) (by omega) (by omega) (kk _ _ _ ⟨ln, bf, z, (y.1, y.2.1, y.2.2.1, y.2.2.2), ke, hs, ms, 2, cd, _, _, hM, hB3, RZ_le hZ (by omega), RHs_le hR (by omega), hcd, hLo, hDo⟩ hS (lv_sub hl [2, 3, 4, 5, 6, 7] rfl))
set_option maxHeartbeats 4000000 in
set_option maxRecDepth 100000 in
theorem law_known {p : Program} {l : Launch} {e : Env} {s : State} {m : MethodId} {below : List Frame} {meth : Method} {c : Code} {b L : Nat} {xs : Nat → Int32} {E : wE} {cL cD : ClassId} {g gm : Nat → Nat} {ao ad : Nat} (C : LC p l s m meth c b L xs E cL cD g gm ao ad) {n B : Nat} (hn : 4 * n + 4 ≤ L) (hB : B ≤ 60000) {H : Heap} {locs : List Loc} {cells slots : Nat} {ls : Array Slot} {Q : State → Prop} (hcl9 : cells + 3 ≤ 601024) (hsl9 : slots + 18 ≤ 7293034) (hI : LI E cL cD g gm ao ad B H) (hS : va_S (lwA s) s.heap H locs)
    (hl : lv_has ls 9 [(0, .ref b), (1, .ref (g 0)), (2, .ref (gm 0)), (3, .ref ao), (4, .ref ad), (5, .int (nI (4 * n)))])
    (kk : ∀ (H2 : Heap) (locs2 : List Loc) (ls2 : Array Slot), LI E cL cD g gm ao ad (B + 100) H2 → va_S (lwA s) s.heap H2 locs2 → lv_has ls2 9 [(0, .ref b), (1, .ref (g 0)), (2, .ref (gm 0)), (3, .ref ao), (4, .ref ad), (5, .int (nI (4 * n)))] → W p l e room_1 s m #[Value.ref b] below meth c H2 locs2 (cells + 3) (slots + 18) Q (F0 m 1485 ls2 [])) : W p l e room_1 s m #[Value.ref b] below meth c H locs cells slots Q (F0 m 834 ls []) := by
  have hx := C.hx
  have hb := C.hb
  have hml := C.hml
  have hown := C.hown
  have hts := C.hts
  have hX := C.hX
  have hbl := C.hbl
  have hst := C.hst
  have hL := C.hL
  have hK := C.hK
  have hKL := C.hKL
  have hxe := C.hxe
  have hxc := C.hxc
  obtain ⟨ln, bf, z, y, ke, hs, ms, th, cd, x0, d0, hM, hO, hZ, hR, hcd, hLo, hDo⟩ := hI
  have hzr := hM.rng
  have hAn : ∀ q, wF 6 gm q → lwA s q := by rintro q ⟨k, hk, rfl⟩; exact C.hAm k hk
  have hmg : ∀ k, k < 94 → ¬ wF 6 gm (g k) := by rintro k hk ⟨j, hj, e9⟩; exact C.ngm k j hk hj e9
  have hmo : ¬ wF 6 gm ao := by rintro ⟨j, hj, e9⟩; exact C.nmo j hj e9.symm
  have hmd : ¬ wF 6 gm ad := by rintro ⟨j, hj, e9⟩; exact C.nmd j hj e9.symm
  have hAw : ∀ q, wA g ao q → lwA s q := by
    rintro q (⟨k, hk, rfl⟩ | rfl)
    · exact C.hAg k hk
    · exact C.hAo
  have hwm : ∀ k, k < 6 → ¬ wA g ao (gm k) := by
    rintro k hk (⟨j, hj, e9⟩ | e9)
    · exact C.ngm j k hj hk e9.symm
    · exact C.nmo k hk e9
  have hwo : ¬ wA g ao ad := by
    rintro (⟨j, hj, e9⟩ | e9)
    · exact C.ngd j hj e9.symm
    · exact C.nod e9.symm
  obtain ⟨w1, hw1⟩ : ∃ w, xs (4 * n + 1) = w := ⟨_, rfl⟩
  obtain ⟨w2, hw2⟩ : ∃ w, xs (4 * n + 2) = w := ⟨_, rfl⟩
  refine lv_aload_n hx hb dL_law_834 rfl (lv_at hl 1 rfl) ?_
  refine sc_load hx hb hX hbl hS hL hn (j := 1) (by decide) hw1 (lv_at hl 0 rfl) (lv_at hl 5 rfl) (by decide) dL_law_835 dL_law_836 dL_law_838 dL_law_839 dL_law_840 ?_
  refine sc_load hx hb hX hbl hS hL hn (j := 2) (by decide) hw2 (lv_at hl 0 rfl) (lv_at hl 5 rfl) (by decide) dL_law_841 dL_law_842 dL_law_844 dL_law_845 dL_law_846 ?_
  refine lv_aload_n hx hb dL_law_847 rfl (lv_at hl 3 rfl) ?_
  refine va_calli (vx_runSW (As := [.ref (g 0), .int w1, .int w2, .ref ao]) (rest := []) ⟨hx, hb, hml, hown, hts⟩ (c_L_known l hst cL cD ao E g ln bf z ke hs w1 w2) (vx_cwSW 4 hts gL_law_L_known rfl rfl rfl (by decide +kernel) ⟨Nat.le_of_ble_eq_true rfl, Nat.le_of_ble_eq_true rfl⟩) ⟨wL.blind, fun U hU hW => wL.go hM ⟨_, hLo⟩ hK hKL C.hI C.ngo hxe hxc hS hAw hU hW⟩ rfl rfl hl.1 rfl (lv_room (Nat.le_of_ble_eq_true rfl)) dL_law_848 ⟨Nat.le_trans (Nat.add_le_add_left (by decide) cells) hcl9, Nat.le_trans (Nat.add_le_add_left (by decide) slots) hsl9⟩) hS (fun q _ h => hAw q h) (fun q h => hAw q h) (fun r_1 u1 t H_1 locs_1 ht hvm hw hB1 hz1 hk1 hS => ?_)
  obtain rfl : r_1 = u1 := hw
  rw [ht] at hB1
  have hO := hO.at hk1 hwm
  have hDo := (hk1 ad hDo.lt hwo).trans hDo
  clear hLo hM
  rcases hB1 with ⟨rfl, hc, hLo, hM⟩ | ⟨rfl, hc, ⟨x1, hLo⟩, hM⟩
  · skip
    obtain ⟨uu, huu, rfl⟩ := i_in hc.1 (by decide)
    obtain ⟨bk, hbk, rfl⟩ := i_in hc.2 (by omega)
    have hcls : (nI uu).toNatClampNeg = uu ∧ (nI bk).toNatClampNeg = bk := ⟨nI_clamp (by omega), nI_clamp (by omega)⟩
    simp only [hcls] at hM hLo
    refine lv_istore (lv' := [(6, .int 0), (0, .ref b), (1, .ref (g 0)), (2, .ref (gm 0)), (3, .ref ao), (4, .ref ad), (5, .int (nI (4 * n)))]) hx hb dL_law_851 hl (by decide) rfl (fun ls hl => ?_)
    refine lv_aload_n hx hb dL_law_853 rfl (lv_at hl 3 rfl) ?_
    refine sc_load hx hb hX hbl hS hL hn (j := 1) (by decide) hw1 (lv_at hl 1 rfl) (lv_at hl 6 rfl) (by decide) dL_law_854 dL_law_855 dL_law_857 dL_law_858 dL_law_859 ?_
    refine sc_load hx hb hX hbl hS hL hn (j := 2) (by decide) hw2 (lv_at hl 1 rfl) (lv_at hl 6 rfl) (by decide) dL_law_860 dL_law_861 dL_law_863 dL_law_864 dL_law_865 ?_
    refine va_calli (va_runV (As := [_, _]) (rest := []) ⟨hx, hb, hml, hown, hts⟩ (c_X6_known_ok l E gm th ln bf y.1 y.2.1 y.2.2.1 y.2.2.2 ke ms uu huu bk (by rw [← a_size hZ]; exact hbk)) (cwV 2 hts gL_law_X6_known rfl rfl rfl (by decide +kernel) ⟨Nat.le_of_ble_eq_true rfl, Nat.le_of_ble_eq_true rfl⟩) ⟨wS.blind, hO.recv hK, fun U hU hW => wS.go hO hK C.hIm hU hW⟩ rfl rfl hl.1 rfl (lv_room (Nat.le_of_ble_eq_true rfl)) dL_law_866 ⟨(by show cells + 2 + 0 ≤ 601024; omega), (by show slots + 12 + 0 ≤ 7293034; omega)⟩) hS (fun q _ h => hAn q h) (fun q h => hAn q h) (fun r_2 u2 t H_2 locs_2 ht hvm hw hB2 hz2 hk2 hS => ?_)
    have hM := hM.at hk2 hmg
    have hLo := (hk2 ao (oA.lt hLo) hmo).trans hLo
    have hDo := (hk2 ad (oA.lt hDo) hmd).trans hDo
    rw [ht] at hB2
    obtain rfl := hw
    refine lv_topi (fun r7 hr7 => ?_)
    refine lv_istore (lv' := [(7, .int r7), (6, .int 0), (0, .ref b), (1, .ref (g 0)), (2, .ref (gm 0)), (3, .ref ao), (4, .ref ad), (5, .int (nI (4 * n)))]) hx hb dL_law_869 hl (by decide) rfl (fun ls hl => ?_)
    refine lv_aload_n hx hb dL_law_871 rfl (lv_at hl 4 rfl) ?_
    refine va_calli (va_runV (As := []) (rest := []) ⟨hx, hb, hml, hown, hts⟩ (c_X6_thrown_ok l E gm 0 ln bf y.1 y.2.1 y.2.2.1 y.2.2.2 ke ms) (cwV 0 hts gL_law_X6_thrown rfl rfl rfl (by decide +kernel) ⟨Nat.le_of_ble_eq_true rfl, Nat.le_of_ble_eq_true rfl⟩) ⟨wS.blind, MOB.recv hK hB2, fun U hU hW => wS.go hB2 hK C.hIm hU hW⟩ rfl rfl hl.1 rfl (lv_room (Nat.le_of_ble_eq_true rfl)) dL_law_872 ⟨(by show cells + 2 + 0 + 0 ≤ 601024; omega), (by show slots + 12 + 0 + 0 ≤ 7293034; omega)⟩) hS (fun q _ h => hAn q h) (fun q h => hAn q h) (fun r_3 u3 t H_3 locs_3 ht hvm hw hB3 hz3 hk3 hS => ?_)
    have hM := hM.at hk3 hmg
    have hLo := (hk3 ao (oA.lt hLo) hmo).trans hLo
    have hDo := (hk3 ad (oA.lt hDo) hmd).trans hDo
    rw [ht] at hB3
    obtain rfl := hw
    refine lv_iload hx hb dL_law_875 (lv_at hl 1 rfl) ?_
    refine lv_icmp_eq (tgt := 882) hx hb dL_law_877 rfl (fun _ => ?_) (fun h => absurd rfl h)
    refine lv_iload hx hb dL_law_882 (lv_at hl 1 rfl) ?_
    refine lv_if_ne (tgt := 899) hx hb dL_law_884 rfl (fun h => absurd rfl h) (fun _ => ?_)
    have hLo := oA_eq hLo ((a_known hZ huu (by omega)).trans hr7.symm)
    refine lv_aload_n hx hb dL_law_887 rfl (lv_at hl 5 rfl) ?_
    refine lv_iconst (v := 0) hx hb dL_law_888 (by decide) ?_
    refine w_lald hx hb hKL hLo dL_law_889 ?_
    refine lv_iload hx hb dL_law_890 (lv_at hl 0 rfl) ?_
    refine lv_i2l hx hb dL_law_892 rfl ?_
    refine W.lcmp hx hb dL_law_893 ?_
    rw [lg_same]
    refine lv_if_eq (tgt := 899) hx hb dL_law_894 rfl (fun _ => ?_) (fun h => absurd rfl h)
    refine lv_goto (tgt := 1485) hx hb dL_law_899 rfl ?_
    refine W.widen (k := cells + 3) (n := slots + 18) (by omega) (by omega) (kk _ _ _ ⟨ln, bf, z, (y.1, y.2.1, y.2.2.1, y.2.2.2), ke, hs, ms, 0, cd, _, _, hM, hB3, RZ_le hZ (by omega), RHs_le hR (by omega), hcd, hLo, hDo⟩ hS (lv_sub hl [2, 3, 4, 5, 6, 7] rfl))
  · by_cases hq : vp_in w1 3
    · skip
      refine lv_istore (lv' := [(6, .int 1), (0, .ref b), (1, .ref (g 0)), (2, .ref (gm 0)), (3, .ref ao), (4, .ref ad), (5, .int (nI (4 * n)))]) hx hb dL_law_851 hl (by decide) rfl (fun ls hl => ?_)
      refine lv_aload_n hx hb dL_law_853 rfl (lv_at hl 3 rfl) ?_
      refine sc_load hx hb hX hbl hS hL hn (j := 1) (by decide) hw1 (lv_at hl 1 rfl) (lv_at hl 6 rfl) (by decide) dL_law_854 dL_law_855 dL_law_857 dL_law_858 dL_law_859 ?_
      refine sc_load hx hb hX hbl hS hL hn (j := 2) (by decide) hw2 (lv_at hl 1 rfl) (lv_at hl 6 rfl) (by decide) dL_law_860 dL_law_861 dL_law_863 dL_law_864 dL_law_865 ?_
      refine va_calli (va_runV (As := [_, _]) (rest := []) ⟨hx, hb, hml, hown, hts⟩ (c_X6_known_no2 l E gm th ln bf y.1 y.2.1 y.2.2.1 y.2.2.2 ke ms w1 w2 (inB_v (n := 3) rfl (by decide) (by decide) hq) (inB_f rfl (by have := a_size hZ; omega) (by have := a_size hZ; omega) (by rw [← a_size hZ]; exact (fun q => hc ⟨hq, q⟩)))) (cwV 2 hts gL_law_X6_known rfl rfl rfl (by decide +kernel) ⟨Nat.le_of_ble_eq_true rfl, Nat.le_of_ble_eq_true rfl⟩) ⟨wS.blind, hO.recv hK, fun U hU hW => wS.go hO hK C.hIm hU hW⟩ rfl rfl hl.1 rfl (lv_room (Nat.le_of_ble_eq_true rfl)) dL_law_866 ⟨(by show cells + 2 + 0 ≤ 601024; omega), (by show slots + 12 + 0 ≤ 7293034; omega)⟩) hS (fun q _ h => hAn q h) (fun q h => hAn q h) (fun r_2 u2 t H_2 locs_2 ht hvm hw hB2 hz2 hk2 hS => ?_)
      have hM := hM.at hk2 hmg
      have hLo := (hk2 ao (oA.lt hLo) hmo).trans hLo
      have hDo := (hk2 ad (oA.lt hDo) hmd).trans hDo
      rw [ht] at hB2
      obtain rfl := hw
      refine lv_topi (fun r7 hr7 => ?_)
      refine lv_istore (lv' := [(7, .int r7), (6, .int 1), (0, .ref b), (1, .ref (g 0)), (2, .ref (gm 0)), (3, .ref ao), (4, .ref ad), (5, .int (nI (4 * n)))]) hx hb dL_law_869 hl (by decide) rfl (fun ls hl => ?_)
      refine lv_aload_n hx hb dL_law_871 rfl (lv_at hl 4 rfl) ?_
      refine va_calli (va_runV (As := []) (rest := []) ⟨hx, hb, hml, hown, hts⟩ (c_X6_thrown_ok l E gm 1 ln bf y.1 y.2.1 y.2.2.1 y.2.2.2 ke ms) (cwV 0 hts gL_law_X6_thrown rfl rfl rfl (by decide +kernel) ⟨Nat.le_of_ble_eq_true rfl, Nat.le_of_ble_eq_true rfl⟩) ⟨wS.blind, MOB.recv hK hB2, fun U hU hW => wS.go hB2 hK C.hIm hU hW⟩ rfl rfl hl.1 rfl (lv_room (Nat.le_of_ble_eq_true rfl)) dL_law_872 ⟨(by show cells + 2 + 0 + 0 ≤ 601024; omega), (by show slots + 12 + 0 + 0 ≤ 7293034; omega)⟩) hS (fun q _ h => hAn q h) (fun q h => hAn q h) (fun r_3 u3 t H_3 locs_3 ht hvm hw hB3 hz3 hk3 hS => ?_)
      have hM := hM.at hk3 hmg
      have hLo := (hk3 ao (oA.lt hLo) hmo).trans hLo
      have hDo := (hk3 ad (oA.lt hDo) hmd).trans hDo
      rw [ht] at hB3
      obtain rfl := hw
      refine lv_iload hx hb dL_law_875 (lv_at hl 1 rfl) ?_
      refine lv_icmp_eq (tgt := 882) hx hb dL_law_877 rfl (fun _ => ?_) (fun h => absurd rfl h)
      refine lv_iload hx hb dL_law_882 (lv_at hl 1 rfl) ?_
      refine lv_if_ne (tgt := 899) hx hb dL_law_884 rfl (fun _ => ?_) (fun h => absurd h (by decide))
      refine lv_goto (tgt := 1485) hx hb dL_law_899 rfl ?_
      refine W.widen (k := cells + 3) (n := slots + 18) (by omega) (by omega) (kk _ _ _ ⟨ln, bf, z, (y.1, y.2.1, y.2.2.1, y.2.2.2), ke, hs, ms, 1, cd, _, _, hM, hB3, RZ_le hZ (by omega), RHs_le hR (by omega), hcd, hLo, hDo⟩ hS (lv_sub hl [2, 3, 4, 5, 6, 7] rfl))
    · skip
      refine lv_istore (lv' := [(6, .int 1), (0, .ref b), (1, .ref (g 0)), (2, .ref (gm 0)), (3, .ref ao), (4, .ref ad), (5, .int (nI (4 * n)))]) hx hb dL_law_851 hl (by decide) rfl (fun ls hl => ?_)
      refine lv_aload_n hx hb dL_law_853 rfl (lv_at hl 3 rfl) ?_
      refine sc_load hx hb hX hbl hS hL hn (j := 1) (by decide) hw1 (lv_at hl 1 rfl) (lv_at hl 6 rfl) (by decide) dL_law_854 dL_law_855 dL_law_857 dL_law_858 dL_law_859 ?_
      refine sc_load hx hb hX hbl hS hL hn (j := 2) (by decide) hw2 (lv_at hl 1 rfl) (lv_at hl 6 rfl) (by decide) dL_law_860 dL_law_861 dL_law_863 dL_law_864 dL_law_865 ?_
      refine va_calli (va_runV (As := [_, _]) (rest := []) ⟨hx, hb, hml, hown, hts⟩ (c_X6_known_no1 l E gm th ln bf y.1 y.2.1 y.2.2.1 y.2.2.2 ke ms w1 w2 (inB_f (n := 3) rfl (by decide) (by decide) hq)) (cwV 2 hts gL_law_X6_known rfl rfl rfl (by decide +kernel) ⟨Nat.le_of_ble_eq_true rfl, Nat.le_of_ble_eq_true rfl⟩) ⟨wS.blind, hO.recv hK, fun U hU hW => wS.go hO hK C.hIm hU hW⟩ rfl rfl hl.1 rfl (lv_room (Nat.le_of_ble_eq_true rfl)) dL_law_866 ⟨(by show cells + 2 + 0 ≤ 601024; omega), (by show slots + 12 + 0 ≤ 7293034; omega)⟩) hS (fun q _ h => hAn q h) (fun q h => hAn q h) (fun r_2 u2 t H_2 locs_2 ht hvm hw hB2 hz2 hk2 hS => ?_)
      have hM := hM.at hk2 hmg
      have hLo := (hk2 ao (oA.lt hLo) hmo).trans hLo
      have hDo := (hk2 ad (oA.lt hDo) hmd).trans hDo
      rw [ht] at hB2
      obtain rfl := hw
      refine lv_topi (fun r7 hr7 => ?_)
      refine lv_istore (lv' := [(7, .int r7), (6, .int 1), (0, .ref b), (1, .ref (g 0)), (2, .ref (gm 0)), (3, .ref ao), (4, .ref ad), (5, .int (nI (4 * n)))]) hx hb dL_law_869 hl (by decide) rfl (fun ls hl => ?_)
      refine lv_aload_n hx hb dL_law_871 rfl (lv_at hl 4 rfl) ?_
      refine va_calli (va_runV (As := []) (rest := []) ⟨hx, hb, hml, hown, hts⟩ (c_X6_thrown_ok l E gm 1 ln bf y.1 y.2.1 y.2.2.1 y.2.2.2 ke ms) (cwV 0 hts gL_law_X6_thrown rfl rfl rfl (by decide +kernel) ⟨Nat.le_of_ble_eq_true rfl, Nat.le_of_ble_eq_true rfl⟩) ⟨wS.blind, MOB.recv hK hB2, fun U hU hW => wS.go hB2 hK C.hIm hU hW⟩ rfl rfl hl.1 rfl (lv_room (Nat.le_of_ble_eq_true rfl)) dL_law_872 ⟨(by show cells + 2 + 0 + 0 ≤ 601024; omega), (by show slots + 12 + 0 + 0 ≤ 7293034; omega)⟩) hS (fun q _ h => hAn q h) (fun q h => hAn q h) (fun r_3 u3 t H_3 locs_3 ht hvm hw hB3 hz3 hk3 hS => ?_)
      have hM := hM.at hk3 hmg
      have hLo := (hk3 ao (oA.lt hLo) hmo).trans hLo
      have hDo := (hk3 ad (oA.lt hDo) hmd).trans hDo
      rw [ht] at hB3
      obtain rfl := hw
      refine lv_iload hx hb dL_law_875 (lv_at hl 1 rfl) ?_
      refine lv_icmp_eq (tgt := 882) hx hb dL_law_877 rfl (fun _ => ?_) (fun h => absurd rfl h)
      refine lv_iload hx hb dL_law_882 (lv_at hl 1 rfl) ?_
      refine lv_if_ne (tgt := 899) hx hb dL_law_884 rfl (fun _ => ?_) (fun h => absurd h (by decide))
      refine lv_goto (tgt := 1485) hx hb dL_law_899 rfl ?_
      refine W.widen (k := cells + 3) (n := slots + 18) (by omega) (by omega) (kk _ _ _ ⟨ln, bf, z, (y.1, y.2.1, y.2.2.1, y.2.2.2), ke, hs, ms, 1, cd, _, _, hM, hB3, RZ_le hZ (by omega), RHs_le hR (by omega), hcd, hLo, hDo⟩ hS (lv_sub hl [2, 3, 4, 5, 6, 7] rfl))
set_option maxHeartbeats 4000000 in
set_option maxRecDepth 100000 in
theorem law_waiting {p : Program} {l : Launch} {e : Env} {s : State} {m : MethodId} {below : List Frame} {meth : Method} {c : Code} {b L : Nat} {xs : Nat → Int32} {E : wE} {cL cD : ClassId} {g gm : Nat → Nat} {ao ad : Nat} (C : LC p l s m meth c b L xs E cL cD g gm ao ad) {n B : Nat} (hn : 4 * n + 4 ≤ L) (hB : B ≤ 60000) {H : Heap} {locs : List Loc} {cells slots : Nat} {ls : Array Slot} {Q : State → Prop} (hcl9 : cells + 3 ≤ 601024) (hsl9 : slots + 18 ≤ 7293034) (hI : LI E cL cD g gm ao ad B H) (hS : va_S (lwA s) s.heap H locs)
    (hl : lv_has ls 9 [(0, .ref b), (1, .ref (g 0)), (2, .ref (gm 0)), (3, .ref ao), (4, .ref ad), (5, .int (nI (4 * n)))])
    (kk : ∀ (H2 : Heap) (locs2 : List Loc) (ls2 : Array Slot), LI E cL cD g gm ao ad (B + 100) H2 → va_S (lwA s) s.heap H2 locs2 → lv_has ls2 9 [(0, .ref b), (1, .ref (g 0)), (2, .ref (gm 0)), (3, .ref ao), (4, .ref ad), (5, .int (nI (4 * n)))] → W p l e room_1 s m #[Value.ref b] below meth c H2 locs2 (cells + 3) (slots + 18) Q (F0 m 1485 ls2 [])) : W p l e room_1 s m #[Value.ref b] below meth c H locs cells slots Q (F0 m 902 ls []) := by
  have hx := C.hx
  have hb := C.hb
  have hml := C.hml
  have hown := C.hown
  have hts := C.hts
  have hX := C.hX
  have hbl := C.hbl
  have hst := C.hst
  have hL := C.hL
  have hK := C.hK
  have hKL := C.hKL
  have hxe := C.hxe
  have hxc := C.hxc
  obtain ⟨ln, bf, z, y, ke, hs, ms, th, cd, x0, d0, hM, hO, hZ, hR, hcd, hLo, hDo⟩ := hI
  have hzr := hM.rng
  have hAn : ∀ q, wF 6 gm q → lwA s q := by rintro q ⟨k, hk, rfl⟩; exact C.hAm k hk
  have hmg : ∀ k, k < 94 → ¬ wF 6 gm (g k) := by rintro k hk ⟨j, hj, e9⟩; exact C.ngm k j hk hj e9
  have hmo : ¬ wF 6 gm ao := by rintro ⟨j, hj, e9⟩; exact C.nmo j hj e9.symm
  have hmd : ¬ wF 6 gm ad := by rintro ⟨j, hj, e9⟩; exact C.nmd j hj e9.symm
  have hAw : ∀ q, wA g ao q → lwA s q := by
    rintro q (⟨k, hk, rfl⟩ | rfl)
    · exact C.hAg k hk
    · exact C.hAo
  have hwm : ∀ k, k < 6 → ¬ wA g ao (gm k) := by
    rintro k hk (⟨j, hj, e9⟩ | e9)
    · exact C.ngm j k hj hk e9.symm
    · exact C.nmo k hk e9
  have hwo : ¬ wA g ao ad := by
    rintro (⟨j, hj, e9⟩ | e9)
    · exact C.ngd j hj e9.symm
    · exact C.nod e9.symm
  obtain ⟨w1, hw1⟩ : ∃ w, xs (4 * n + 1) = w := ⟨_, rfl⟩
  obtain ⟨w2, hw2⟩ : ∃ w, xs (4 * n + 2) = w := ⟨_, rfl⟩
  obtain ⟨w3, hw3⟩ : ∃ w, xs (4 * n + 3) = w := ⟨_, rfl⟩
  refine lv_aload_n hx hb dL_law_902 rfl (lv_at hl 1 rfl) ?_
  refine sc_load hx hb hX hbl hS hL hn (j := 1) (by decide) hw1 (lv_at hl 0 rfl) (lv_at hl 5 rfl) (by decide) dL_law_903 dL_law_904 dL_law_906 dL_law_907 dL_law_908 ?_
  refine sc_load hx hb hX hbl hS hL hn (j := 2) (by decide) hw2 (lv_at hl 0 rfl) (lv_at hl 5 rfl) (by decide) dL_law_909 dL_law_910 dL_law_912 dL_law_913 dL_law_914 ?_
  refine sc_load hx hb hX hbl hS hL hn (j := 3) (by decide) hw3 (lv_at hl 0 rfl) (lv_at hl 5 rfl) (by decide) dL_law_915 dL_law_916 dL_law_918 dL_law_919 dL_law_920 ?_
  refine lv_aload_n hx hb dL_law_921 rfl (lv_at hl 3 rfl) ?_
  refine va_calli (vx_runSW (As := [.ref (g 0), .int w1, .int w2, .int w3, .ref ao]) (rest := []) ⟨hx, hb, hml, hown, hts⟩ (c_L_waiting l hst cL cD ao E g ln bf z ke hs w1 w2 w3) (vx_cwSW 5 hts gL_law_L_waiting rfl rfl rfl (by decide +kernel) ⟨Nat.le_of_ble_eq_true rfl, Nat.le_of_ble_eq_true rfl⟩) ⟨wL.blind, fun U hU hW => wL.go hM ⟨_, hLo⟩ hK hKL C.hI C.ngo hxe hxc hS hAw hU hW⟩ rfl rfl hl.1 rfl (lv_room (Nat.le_of_ble_eq_true rfl)) dL_law_922 ⟨Nat.le_trans (Nat.add_le_add_left (by decide) cells) hcl9, Nat.le_trans (Nat.add_le_add_left (by decide) slots) hsl9⟩) hS (fun q _ h => hAw q h) (fun q h => hAw q h) (fun r_1 u1 t H_1 locs_1 ht hvm hw hB1 hz1 hk1 hS => ?_)
  obtain rfl : r_1 = u1 := hw
  rw [ht] at hB1
  have hO := hO.at hk1 hwm
  have hDo := (hk1 ad hDo.lt hwo).trans hDo
  clear hLo hM
  rcases hB1 with ⟨rfl, hc, hLo, hM⟩ | ⟨rfl, hc, ⟨x1, hLo⟩, hM⟩ | ⟨rfl, hc, ⟨x1, hLo⟩, hM⟩
  · skip
    obtain ⟨uu, huu, rfl⟩ := i_in hc.1 (by decide)
    obtain ⟨q9, hq9, rfl⟩ := i_nn hc.2.1
    obtain ⟨jj, hjj, rfl⟩ := i_in hc.2.2 (by decide)
    have hcls : (nI uu).toNatClampNeg = uu ∧ (nI q9).toNatClampNeg = q9 ∧ (nI jj).toNatClampNeg = jj := ⟨nI_clamp (by omega), nI_clamp (by omega), nI_clamp (by omega)⟩
    simp only [hcls] at hM hLo
    refine lv_istore (lv' := [(6, .int 0), (0, .ref b), (1, .ref (g 0)), (2, .ref (gm 0)), (3, .ref ao), (4, .ref ad), (5, .int (nI (4 * n)))]) hx hb dL_law_925 hl (by decide) rfl (fun ls hl => ?_)
    refine lv_aload_n hx hb dL_law_927 rfl (lv_at hl 3 rfl) ?_
    refine sc_load hx hb hX hbl hS hL hn (j := 1) (by decide) hw1 (lv_at hl 1 rfl) (lv_at hl 6 rfl) (by decide) dL_law_928 dL_law_929 dL_law_931 dL_law_932 dL_law_933 ?_
    refine sc_load hx hb hX hbl hS hL hn (j := 2) (by decide) hw2 (lv_at hl 1 rfl) (lv_at hl 6 rfl) (by decide) dL_law_934 dL_law_935 dL_law_937 dL_law_938 dL_law_939 ?_
    refine sc_load hx hb hX hbl hS hL hn (j := 3) (by decide) hw3 (lv_at hl 1 rfl) (lv_at hl 6 rfl) (by decide) dL_law_940 dL_law_941 dL_law_943 dL_law_944 dL_law_945 ?_
    refine va_calli (va_runV (As := [_, _, _]) (rest := []) ⟨hx, hb, hml, hown, hts⟩ (c_X6_waiting_ok l E gm th ln bf y.1 y.2.1 y.2.2.1 y.2.2.2 ke ms uu huu q9 jj hq9 hjj) (cwV 3 hts gL_law_X6_waiting rfl rfl rfl (by decide +kernel) ⟨Nat.le_of_ble_eq_true rfl, Nat.le_of_ble_eq_true rfl⟩) ⟨wS.blind, hO.recv hK, fun U hU hW => wS.go hO hK C.hIm hU hW⟩ rfl rfl hl.1 rfl (lv_room (Nat.le_of_ble_eq_true rfl)) dL_law_946 ⟨(by show cells + 2 + 0 ≤ 601024; omega), (by show slots + 12 + 0 ≤ 7293034; omega)⟩) hS (fun q _ h => hAn q h) (fun q h => hAn q h) (fun r_2 u2 t H_2 locs_2 ht hvm hw hB2 hz2 hk2 hS => ?_)
    have hM := hM.at hk2 hmg
    have hLo := (hk2 ao (oA.lt hLo) hmo).trans hLo
    have hDo := (hk2 ad (oA.lt hDo) hmd).trans hDo
    rw [ht] at hB2
    obtain rfl := hw
    refine lv_topi (fun r7 hr7 => ?_)
    refine lv_istore (lv' := [(7, .int r7), (6, .int 0), (0, .ref b), (1, .ref (g 0)), (2, .ref (gm 0)), (3, .ref ao), (4, .ref ad), (5, .int (nI (4 * n)))]) hx hb dL_law_949 hl (by decide) rfl (fun ls hl => ?_)
    refine lv_aload_n hx hb dL_law_951 rfl (lv_at hl 4 rfl) ?_
    refine va_calli (va_runV (As := []) (rest := []) ⟨hx, hb, hml, hown, hts⟩ (c_X6_thrown_ok l E gm 0 ln bf y.1 y.2.1 y.2.2.1 y.2.2.2 ke ms) (cwV 0 hts gL_law_X6_thrown rfl rfl rfl (by decide +kernel) ⟨Nat.le_of_ble_eq_true rfl, Nat.le_of_ble_eq_true rfl⟩) ⟨wS.blind, MOB.recv hK hB2, fun U hU hW => wS.go hB2 hK C.hIm hU hW⟩ rfl rfl hl.1 rfl (lv_room (Nat.le_of_ble_eq_true rfl)) dL_law_952 ⟨(by show cells + 2 + 0 + 0 ≤ 601024; omega), (by show slots + 12 + 0 + 0 ≤ 7293034; omega)⟩) hS (fun q _ h => hAn q h) (fun q h => hAn q h) (fun r_3 u3 t H_3 locs_3 ht hvm hw hB3 hz3 hk3 hS => ?_)
    have hM := hM.at hk3 hmg
    have hLo := (hk3 ao (oA.lt hLo) hmo).trans hLo
    have hDo := (hk3 ad (oA.lt hDo) hmd).trans hDo
    rw [ht] at hB3
    obtain rfl := hw
    refine lv_iload hx hb dL_law_955 (lv_at hl 1 rfl) ?_
    refine lv_icmp_eq (tgt := 962) hx hb dL_law_957 rfl (fun _ => ?_) (fun h => absurd rfl h)
    refine lv_iload hx hb dL_law_962 (lv_at hl 1 rfl) ?_
    refine lv_if_ne (tgt := 979) hx hb dL_law_964 rfl (fun h => absurd rfl h) (fun _ => ?_)
    have hLo := oA_eq hLo ((a_wait hZ huu q9 jj).trans hr7.symm)
    refine lv_aload_n hx hb dL_law_967 rfl (lv_at hl 5 rfl) ?_
    refine lv_iconst (v := 0) hx hb dL_law_968 (by decide) ?_
    refine w_lald hx hb hKL hLo dL_law_969 ?_
    refine lv_iload hx hb dL_law_970 (lv_at hl 0 rfl) ?_
    refine lv_i2l hx hb dL_law_972 rfl ?_
    refine W.lcmp hx hb dL_law_973 ?_
    rw [lg_same]
    refine lv_if_eq (tgt := 979) hx hb dL_law_974 rfl (fun _ => ?_) (fun h => absurd rfl h)
    refine lv_goto (tgt := 1485) hx hb dL_law_979 rfl ?_
    refine W.widen (k := cells + 3) (n := slots + 18) (by omega) (by omega) (kk _ _ _ ⟨ln, bf, z, (y.1, y.2.1, y.2.2.1, y.2.2.2), ke, hs, ms, 0, cd, _, _, hM, hB3, RZ_le hZ (by omega), RHs_le hR (by omega), hcd, hLo, hDo⟩ hS (lv_sub hl [2, 3, 4, 5, 6, 7] rfl))
  · skip
    refine lv_istore (lv' := [(6, .int 1), (0, .ref b), (1, .ref (g 0)), (2, .ref (gm 0)), (3, .ref ao), (4, .ref ad), (5, .int (nI (4 * n)))]) hx hb dL_law_925 hl (by decide) rfl (fun ls hl => ?_)
    refine lv_aload_n hx hb dL_law_927 rfl (lv_at hl 3 rfl) ?_
    refine sc_load hx hb hX hbl hS hL hn (j := 1) (by decide) hw1 (lv_at hl 1 rfl) (lv_at hl 6 rfl) (by decide) dL_law_928 dL_law_929 dL_law_931 dL_law_932 dL_law_933 ?_
    refine sc_load hx hb hX hbl hS hL hn (j := 2) (by decide) hw2 (lv_at hl 1 rfl) (lv_at hl 6 rfl) (by decide) dL_law_934 dL_law_935 dL_law_937 dL_law_938 dL_law_939 ?_
    refine sc_load hx hb hX hbl hS hL hn (j := 3) (by decide) hw3 (lv_at hl 1 rfl) (lv_at hl 6 rfl) (by decide) dL_law_940 dL_law_941 dL_law_943 dL_law_944 dL_law_945 ?_
    refine va_calli (va_runV (As := [_, _, _]) (rest := []) ⟨hx, hb, hml, hown, hts⟩ (c_X6_waiting_no1 l E gm th ln bf y.1 y.2.1 y.2.2.1 y.2.2.2 ke ms w1 w2 w3 (inB_f (n := 3) rfl (by decide) (by decide) hc)) (cwV 3 hts gL_law_X6_waiting rfl rfl rfl (by decide +kernel) ⟨Nat.le_of_ble_eq_true rfl, Nat.le_of_ble_eq_true rfl⟩) ⟨wS.blind, hO.recv hK, fun U hU hW => wS.go hO hK C.hIm hU hW⟩ rfl rfl hl.1 rfl (lv_room (Nat.le_of_ble_eq_true rfl)) dL_law_946 ⟨(by show cells + 2 + 0 ≤ 601024; omega), (by show slots + 12 + 0 ≤ 7293034; omega)⟩) hS (fun q _ h => hAn q h) (fun q h => hAn q h) (fun r_2 u2 t H_2 locs_2 ht hvm hw hB2 hz2 hk2 hS => ?_)
    have hM := hM.at hk2 hmg
    have hLo := (hk2 ao (oA.lt hLo) hmo).trans hLo
    have hDo := (hk2 ad (oA.lt hDo) hmd).trans hDo
    rw [ht] at hB2
    obtain rfl := hw
    refine lv_topi (fun r7 hr7 => ?_)
    refine lv_istore (lv' := [(7, .int r7), (6, .int 1), (0, .ref b), (1, .ref (g 0)), (2, .ref (gm 0)), (3, .ref ao), (4, .ref ad), (5, .int (nI (4 * n)))]) hx hb dL_law_949 hl (by decide) rfl (fun ls hl => ?_)
    refine lv_aload_n hx hb dL_law_951 rfl (lv_at hl 4 rfl) ?_
    refine va_calli (va_runV (As := []) (rest := []) ⟨hx, hb, hml, hown, hts⟩ (c_X6_thrown_ok l E gm 1 ln bf y.1 y.2.1 y.2.2.1 y.2.2.2 ke ms) (cwV 0 hts gL_law_X6_thrown rfl rfl rfl (by decide +kernel) ⟨Nat.le_of_ble_eq_true rfl, Nat.le_of_ble_eq_true rfl⟩) ⟨wS.blind, MOB.recv hK hB2, fun U hU hW => wS.go hB2 hK C.hIm hU hW⟩ rfl rfl hl.1 rfl (lv_room (Nat.le_of_ble_eq_true rfl)) dL_law_952 ⟨(by show cells + 2 + 0 + 0 ≤ 601024; omega), (by show slots + 12 + 0 + 0 ≤ 7293034; omega)⟩) hS (fun q _ h => hAn q h) (fun q h => hAn q h) (fun r_3 u3 t H_3 locs_3 ht hvm hw hB3 hz3 hk3 hS => ?_)
    have hM := hM.at hk3 hmg
    have hLo := (hk3 ao (oA.lt hLo) hmo).trans hLo
    have hDo := (hk3 ad (oA.lt hDo) hmd).trans hDo
    rw [ht] at hB3
    obtain rfl := hw
    refine lv_iload hx hb dL_law_955 (lv_at hl 1 rfl) ?_
    refine lv_icmp_eq (tgt := 962) hx hb dL_law_957 rfl (fun _ => ?_) (fun h => absurd rfl h)
    refine lv_iload hx hb dL_law_962 (lv_at hl 1 rfl) ?_
    refine lv_if_ne (tgt := 979) hx hb dL_law_964 rfl (fun _ => ?_) (fun h => absurd h (by decide))
    refine lv_goto (tgt := 1485) hx hb dL_law_979 rfl ?_
    refine W.widen (k := cells + 3) (n := slots + 18) (by omega) (by omega) (kk _ _ _ ⟨ln, bf, z, (y.1, y.2.1, y.2.2.1, y.2.2.2), ke, hs, ms, 1, cd, _, _, hM, hB3, RZ_le hZ (by omega), RHs_le hR (by omega), hcd, hLo, hDo⟩ hS (lv_sub hl [2, 3, 4, 5, 6, 7] rfl))
  · by_cases hq : w2 < 0
    · skip
      refine lv_istore (lv' := [(6, .int 2), (0, .ref b), (1, .ref (g 0)), (2, .ref (gm 0)), (3, .ref ao), (4, .ref ad), (5, .int (nI (4 * n)))]) hx hb dL_law_925 hl (by decide) rfl (fun ls hl => ?_)
      refine lv_aload_n hx hb dL_law_927 rfl (lv_at hl 3 rfl) ?_
      refine sc_load hx hb hX hbl hS hL hn (j := 1) (by decide) hw1 (lv_at hl 1 rfl) (lv_at hl 6 rfl) (by decide) dL_law_928 dL_law_929 dL_law_931 dL_law_932 dL_law_933 ?_
      refine sc_load hx hb hX hbl hS hL hn (j := 2) (by decide) hw2 (lv_at hl 1 rfl) (lv_at hl 6 rfl) (by decide) dL_law_934 dL_law_935 dL_law_937 dL_law_938 dL_law_939 ?_
      refine sc_load hx hb hX hbl hS hL hn (j := 3) (by decide) hw3 (lv_at hl 1 rfl) (lv_at hl 6 rfl) (by decide) dL_law_940 dL_law_941 dL_law_943 dL_law_944 dL_law_945 ?_
      refine va_calli (va_runV (As := [_, _, _]) (rest := []) ⟨hx, hb, hml, hown, hts⟩ (c_X6_waiting_no2 l E gm th ln bf y.1 y.2.1 y.2.2.1 y.2.2.2 ke ms w1 w2 w3 (inB_v (n := 3) rfl (by decide) (by decide) hc.1) hq) (cwV 3 hts gL_law_X6_waiting rfl rfl rfl (by decide +kernel) ⟨Nat.le_of_ble_eq_true rfl, Nat.le_of_ble_eq_true rfl⟩) ⟨wS.blind, hO.recv hK, fun U hU hW => wS.go hO hK C.hIm hU hW⟩ rfl rfl hl.1 rfl (lv_room (Nat.le_of_ble_eq_true rfl)) dL_law_946 ⟨(by show cells + 2 + 0 ≤ 601024; omega), (by show slots + 12 + 0 ≤ 7293034; omega)⟩) hS (fun q _ h => hAn q h) (fun q h => hAn q h) (fun r_2 u2 t H_2 locs_2 ht hvm hw hB2 hz2 hk2 hS => ?_)
      have hM := hM.at hk2 hmg
      have hLo := (hk2 ao (oA.lt hLo) hmo).trans hLo
      have hDo := (hk2 ad (oA.lt hDo) hmd).trans hDo
      rw [ht] at hB2
      obtain rfl := hw
      refine lv_topi (fun r7 hr7 => ?_)
      refine lv_istore (lv' := [(7, .int r7), (6, .int 2), (0, .ref b), (1, .ref (g 0)), (2, .ref (gm 0)), (3, .ref ao), (4, .ref ad), (5, .int (nI (4 * n)))]) hx hb dL_law_949 hl (by decide) rfl (fun ls hl => ?_)
      refine lv_aload_n hx hb dL_law_951 rfl (lv_at hl 4 rfl) ?_
      refine va_calli (va_runV (As := []) (rest := []) ⟨hx, hb, hml, hown, hts⟩ (c_X6_thrown_ok l E gm 2 ln bf y.1 y.2.1 y.2.2.1 y.2.2.2 ke ms) (cwV 0 hts gL_law_X6_thrown rfl rfl rfl (by decide +kernel) ⟨Nat.le_of_ble_eq_true rfl, Nat.le_of_ble_eq_true rfl⟩) ⟨wS.blind, MOB.recv hK hB2, fun U hU hW => wS.go hB2 hK C.hIm hU hW⟩ rfl rfl hl.1 rfl (lv_room (Nat.le_of_ble_eq_true rfl)) dL_law_952 ⟨(by show cells + 2 + 0 + 0 ≤ 601024; omega), (by show slots + 12 + 0 + 0 ≤ 7293034; omega)⟩) hS (fun q _ h => hAn q h) (fun q h => hAn q h) (fun r_3 u3 t H_3 locs_3 ht hvm hw hB3 hz3 hk3 hS => ?_)
      have hM := hM.at hk3 hmg
      have hLo := (hk3 ao (oA.lt hLo) hmo).trans hLo
      have hDo := (hk3 ad (oA.lt hDo) hmd).trans hDo
      rw [ht] at hB3
      obtain rfl := hw
      refine lv_iload hx hb dL_law_955 (lv_at hl 1 rfl) ?_
      refine lv_icmp_eq (tgt := 962) hx hb dL_law_957 rfl (fun _ => ?_) (fun h => absurd rfl h)
      refine lv_iload hx hb dL_law_962 (lv_at hl 1 rfl) ?_
      refine lv_if_ne (tgt := 979) hx hb dL_law_964 rfl (fun _ => ?_) (fun h => absurd h (by decide))
      refine lv_goto (tgt := 1485) hx hb dL_law_979 rfl ?_
      refine W.widen (k := cells + 3) (n := slots + 18) (by omega) (by omega) (kk _ _ _ ⟨ln, bf, z, (y.1, y.2.1, y.2.2.1, y.2.2.2), ke, hs, ms, 2, cd, _, _, hM, hB3, RZ_le hZ (by omega), RHs_le hR (by omega), hcd, hLo, hDo⟩ hS (lv_sub hl [2, 3, 4, 5, 6, 7] rfl))
    · skip
      refine lv_istore (lv' := [(6, .int 2), (0, .ref b), (1, .ref (g 0)), (2, .ref (gm 0)), (3, .ref ao), (4, .ref ad), (5, .int (nI (4 * n)))]) hx hb dL_law_925 hl (by decide) rfl (fun ls hl => ?_)
      refine lv_aload_n hx hb dL_law_927 rfl (lv_at hl 3 rfl) ?_
      refine sc_load hx hb hX hbl hS hL hn (j := 1) (by decide) hw1 (lv_at hl 1 rfl) (lv_at hl 6 rfl) (by decide) dL_law_928 dL_law_929 dL_law_931 dL_law_932 dL_law_933 ?_
      refine sc_load hx hb hX hbl hS hL hn (j := 2) (by decide) hw2 (lv_at hl 1 rfl) (lv_at hl 6 rfl) (by decide) dL_law_934 dL_law_935 dL_law_937 dL_law_938 dL_law_939 ?_
      refine sc_load hx hb hX hbl hS hL hn (j := 3) (by decide) hw3 (lv_at hl 1 rfl) (lv_at hl 6 rfl) (by decide) dL_law_940 dL_law_941 dL_law_943 dL_law_944 dL_law_945 ?_
      refine va_calli (va_runV (As := [_, _, _]) (rest := []) ⟨hx, hb, hml, hown, hts⟩ (c_X6_waiting_no3 l E gm th ln bf y.1 y.2.1 y.2.2.1 y.2.2.2 ke ms w1 w2 w3 (inB_v (n := 3) rfl (by decide) (by decide) hc.1) (inB_f (n := 2) rfl (by decide) (by decide) (fun q => hc.2 ⟨hq, q⟩)) hq) (cwV 3 hts gL_law_X6_waiting rfl rfl rfl (by decide +kernel) ⟨Nat.le_of_ble_eq_true rfl, Nat.le_of_ble_eq_true rfl⟩) ⟨wS.blind, hO.recv hK, fun U hU hW => wS.go hO hK C.hIm hU hW⟩ rfl rfl hl.1 rfl (lv_room (Nat.le_of_ble_eq_true rfl)) dL_law_946 ⟨(by show cells + 2 + 0 ≤ 601024; omega), (by show slots + 12 + 0 ≤ 7293034; omega)⟩) hS (fun q _ h => hAn q h) (fun q h => hAn q h) (fun r_2 u2 t H_2 locs_2 ht hvm hw hB2 hz2 hk2 hS => ?_)
      have hM := hM.at hk2 hmg
      have hLo := (hk2 ao (oA.lt hLo) hmo).trans hLo
      have hDo := (hk2 ad (oA.lt hDo) hmd).trans hDo
      rw [ht] at hB2
      obtain rfl := hw
      refine lv_topi (fun r7 hr7 => ?_)
      refine lv_istore (lv' := [(7, .int r7), (6, .int 2), (0, .ref b), (1, .ref (g 0)), (2, .ref (gm 0)), (3, .ref ao), (4, .ref ad), (5, .int (nI (4 * n)))]) hx hb dL_law_949 hl (by decide) rfl (fun ls hl => ?_)
      refine lv_aload_n hx hb dL_law_951 rfl (lv_at hl 4 rfl) ?_
      refine va_calli (va_runV (As := []) (rest := []) ⟨hx, hb, hml, hown, hts⟩ (c_X6_thrown_ok l E gm 2 ln bf y.1 y.2.1 y.2.2.1 y.2.2.2 ke ms) (cwV 0 hts gL_law_X6_thrown rfl rfl rfl (by decide +kernel) ⟨Nat.le_of_ble_eq_true rfl, Nat.le_of_ble_eq_true rfl⟩) ⟨wS.blind, MOB.recv hK hB2, fun U hU hW => wS.go hB2 hK C.hIm hU hW⟩ rfl rfl hl.1 rfl (lv_room (Nat.le_of_ble_eq_true rfl)) dL_law_952 ⟨(by show cells + 2 + 0 + 0 ≤ 601024; omega), (by show slots + 12 + 0 + 0 ≤ 7293034; omega)⟩) hS (fun q _ h => hAn q h) (fun q h => hAn q h) (fun r_3 u3 t H_3 locs_3 ht hvm hw hB3 hz3 hk3 hS => ?_)
      have hM := hM.at hk3 hmg
      have hLo := (hk3 ao (oA.lt hLo) hmo).trans hLo
      have hDo := (hk3 ad (oA.lt hDo) hmd).trans hDo
      rw [ht] at hB3
      obtain rfl := hw
      refine lv_iload hx hb dL_law_955 (lv_at hl 1 rfl) ?_
      refine lv_icmp_eq (tgt := 962) hx hb dL_law_957 rfl (fun _ => ?_) (fun h => absurd rfl h)
      refine lv_iload hx hb dL_law_962 (lv_at hl 1 rfl) ?_
      refine lv_if_ne (tgt := 979) hx hb dL_law_964 rfl (fun _ => ?_) (fun h => absurd h (by decide))
      refine lv_goto (tgt := 1485) hx hb dL_law_979 rfl ?_
      refine W.widen (k := cells + 3) (n := slots + 18) (by omega) (by omega) (kk _ _ _ ⟨ln, bf, z, (y.1, y.2.1, y.2.2.1, y.2.2.2), ke, hs, ms, 2, cd, _, _, hM, hB3, RZ_le hZ (by omega), RHs_le hR (by omega), hcd, hLo, hDo⟩ hS (lv_sub hl [2, 3, 4, 5, 6, 7] rfl))
set_option maxHeartbeats 4000000 in
set_option maxRecDepth 100000 in
theorem law_count {p : Program} {l : Launch} {e : Env} {s : State} {m : MethodId} {below : List Frame} {meth : Method} {c : Code} {b L : Nat} {xs : Nat → Int32} {E : wE} {cL cD : ClassId} {g gm : Nat → Nat} {ao ad : Nat} (C : LC p l s m meth c b L xs E cL cD g gm ao ad) {n B : Nat} (hn : 4 * n + 4 ≤ L) (hB : B ≤ 60000) {H : Heap} {locs : List Loc} {cells slots : Nat} {ls : Array Slot} {Q : State → Prop} (hcl9 : cells + 3 ≤ 601024) (hsl9 : slots + 18 ≤ 7293034) (hI : LI E cL cD g gm ao ad B H) (hS : va_S (lwA s) s.heap H locs)
    (hl : lv_has ls 9 [(0, .ref b), (1, .ref (g 0)), (2, .ref (gm 0)), (3, .ref ao), (4, .ref ad), (5, .int (nI (4 * n)))])
    (kk : ∀ (H2 : Heap) (locs2 : List Loc) (ls2 : Array Slot), LI E cL cD g gm ao ad (B + 100) H2 → va_S (lwA s) s.heap H2 locs2 → lv_has ls2 9 [(0, .ref b), (1, .ref (g 0)), (2, .ref (gm 0)), (3, .ref ao), (4, .ref ad), (5, .int (nI (4 * n)))] → W p l e room_1 s m #[Value.ref b] below meth c H2 locs2 (cells + 3) (slots + 18) Q (F0 m 1485 ls2 [])) : W p l e room_1 s m #[Value.ref b] below meth c H locs cells slots Q (F0 m 982 ls []) := by
  have hx := C.hx
  have hb := C.hb
  have hml := C.hml
  have hown := C.hown
  have hts := C.hts
  have hX := C.hX
  have hbl := C.hbl
  have hst := C.hst
  have hL := C.hL
  have hK := C.hK
  have hKL := C.hKL
  have hxe := C.hxe
  have hxc := C.hxc
  obtain ⟨ln, bf, z, y, ke, hs, ms, th, cd, x0, d0, hM, hO, hZ, hR, hcd, hLo, hDo⟩ := hI
  have hzr := hM.rng
  have hAn : ∀ q, wF 6 gm q → lwA s q := by rintro q ⟨k, hk, rfl⟩; exact C.hAm k hk
  have hmg : ∀ k, k < 94 → ¬ wF 6 gm (g k) := by rintro k hk ⟨j, hj, e9⟩; exact C.ngm k j hk hj e9
  have hmo : ¬ wF 6 gm ao := by rintro ⟨j, hj, e9⟩; exact C.nmo j hj e9.symm
  have hmd : ¬ wF 6 gm ad := by rintro ⟨j, hj, e9⟩; exact C.nmd j hj e9.symm
  have hAw : ∀ q, wA g ao q → lwA s q := by
    rintro q (⟨k, hk, rfl⟩ | rfl)
    · exact C.hAg k hk
    · exact C.hAo
  have hwm : ∀ k, k < 6 → ¬ wA g ao (gm k) := by
    rintro k hk (⟨j, hj, e9⟩ | e9)
    · exact C.ngm j k hj hk e9.symm
    · exact C.nmo k hk e9
  have hwo : ¬ wA g ao ad := by
    rintro (⟨j, hj, e9⟩ | e9)
    · exact C.ngd j hj e9.symm
    · exact C.nod e9.symm
  obtain ⟨w1, hw1⟩ : ∃ w, xs (4 * n + 1) = w := ⟨_, rfl⟩
  refine lv_aload_n hx hb dL_law_982 rfl (lv_at hl 1 rfl) ?_
  refine sc_load hx hb hX hbl hS hL hn (j := 1) (by decide) hw1 (lv_at hl 0 rfl) (lv_at hl 5 rfl) (by decide) dL_law_983 dL_law_984 dL_law_986 dL_law_987 dL_law_988 ?_
  refine lv_aload_n hx hb dL_law_989 rfl (lv_at hl 3 rfl) ?_
  refine va_calli (vx_runSW (As := [.ref (g 0), .int w1, .ref ao]) (rest := []) ⟨hx, hb, hml, hown, hts⟩ (c_L_count l hst cL cD ao E g ln bf z ke hs w1) (vx_cwSW 3 hts gL_law_L_count rfl rfl rfl (by decide +kernel) ⟨Nat.le_of_ble_eq_true rfl, Nat.le_of_ble_eq_true rfl⟩) ⟨wL.blind, fun U hU hW => wL.go hM ⟨_, hLo⟩ hK hKL C.hI C.ngo hxe hxc hS hAw hU hW⟩ rfl rfl hl.1 rfl (lv_room (Nat.le_of_ble_eq_true rfl)) dL_law_990 ⟨Nat.le_trans (Nat.add_le_add_left (by decide) cells) hcl9, Nat.le_trans (Nat.add_le_add_left (by decide) slots) hsl9⟩) hS (fun q _ h => hAw q h) (fun q h => hAw q h) (fun r_1 u1 t H_1 locs_1 ht hvm hw hB1 hz1 hk1 hS => ?_)
  obtain rfl : r_1 = u1 := hw
  rw [ht] at hB1
  have hO := hO.at hk1 hwm
  have hDo := (hk1 ad hDo.lt hwo).trans hDo
  clear hLo hM
  rcases hB1 with ⟨rfl, hc, hLo, hM⟩ | ⟨rfl, hc, ⟨x1, hLo⟩, hM⟩
  · skip
    obtain ⟨jj, hjj, rfl⟩ := i_in hc (by decide)
    have hcls : (nI jj).toNatClampNeg = jj := nI_clamp (by omega)
    simp only [hcls] at hM hLo
    refine lv_istore (lv' := [(6, .int 0), (0, .ref b), (1, .ref (g 0)), (2, .ref (gm 0)), (3, .ref ao), (4, .ref ad), (5, .int (nI (4 * n)))]) hx hb dL_law_993 hl (by decide) rfl (fun ls hl => ?_)
    refine lv_aload_n hx hb dL_law_995 rfl (lv_at hl 3 rfl) ?_
    refine sc_load hx hb hX hbl hS hL hn (j := 1) (by decide) hw1 (lv_at hl 1 rfl) (lv_at hl 6 rfl) (by decide) dL_law_996 dL_law_997 dL_law_999 dL_law_1000 dL_law_1001 ?_
    refine va_calli (va_runV (As := [_]) (rest := []) ⟨hx, hb, hml, hown, hts⟩ (c_X6_count_ok l E gm th ln bf y.1 y.2.1 y.2.2.1 y.2.2.2 ke ms jj hjj) (cwV 1 hts gL_law_X6_count rfl rfl rfl (by decide +kernel) ⟨Nat.le_of_ble_eq_true rfl, Nat.le_of_ble_eq_true rfl⟩) ⟨wS.blind, hO.recv hK, fun U hU hW => wS.go hO hK C.hIm hU hW⟩ rfl rfl hl.1 rfl (lv_room (Nat.le_of_ble_eq_true rfl)) dL_law_1002 ⟨(by show cells + 1 + 0 ≤ 601024; omega), (by show slots + 6 + 0 ≤ 7293034; omega)⟩) hS (fun q _ h => hAn q h) (fun q h => hAn q h) (fun r_2 u2 t H_2 locs_2 ht hvm hw hB2 hz2 hk2 hS => ?_)
    have hM := hM.at hk2 hmg
    have hLo := (hk2 ao (oA.lt hLo) hmo).trans hLo
    have hDo := (hk2 ad (oA.lt hDo) hmd).trans hDo
    rw [ht] at hB2
    obtain rfl := hw
    refine lv_topi (fun r7 hr7 => ?_)
    refine lv_istore (lv' := [(7, .int r7), (6, .int 0), (0, .ref b), (1, .ref (g 0)), (2, .ref (gm 0)), (3, .ref ao), (4, .ref ad), (5, .int (nI (4 * n)))]) hx hb dL_law_1005 hl (by decide) rfl (fun ls hl => ?_)
    refine lv_aload_n hx hb dL_law_1007 rfl (lv_at hl 4 rfl) ?_
    refine va_calli (va_runV (As := []) (rest := []) ⟨hx, hb, hml, hown, hts⟩ (c_X6_thrown_ok l E gm 0 ln bf y.1 y.2.1 y.2.2.1 y.2.2.2 ke ms) (cwV 0 hts gL_law_X6_thrown rfl rfl rfl (by decide +kernel) ⟨Nat.le_of_ble_eq_true rfl, Nat.le_of_ble_eq_true rfl⟩) ⟨wS.blind, MOB.recv hK hB2, fun U hU hW => wS.go hB2 hK C.hIm hU hW⟩ rfl rfl hl.1 rfl (lv_room (Nat.le_of_ble_eq_true rfl)) dL_law_1008 ⟨(by show cells + 1 + 0 + 0 ≤ 601024; omega), (by show slots + 6 + 0 + 0 ≤ 7293034; omega)⟩) hS (fun q _ h => hAn q h) (fun q h => hAn q h) (fun r_3 u3 t H_3 locs_3 ht hvm hw hB3 hz3 hk3 hS => ?_)
    have hM := hM.at hk3 hmg
    have hLo := (hk3 ao (oA.lt hLo) hmo).trans hLo
    have hDo := (hk3 ad (oA.lt hDo) hmd).trans hDo
    rw [ht] at hB3
    obtain rfl := hw
    refine lv_iload hx hb dL_law_1011 (lv_at hl 1 rfl) ?_
    refine lv_icmp_eq (tgt := 1018) hx hb dL_law_1013 rfl (fun _ => ?_) (fun h => absurd rfl h)
    refine lv_iload hx hb dL_law_1018 (lv_at hl 1 rfl) ?_
    refine lv_if_ne (tgt := 1035) hx hb dL_law_1020 rfl (fun h => absurd rfl h) (fun _ => ?_)
    have hLo := oA_eq hLo ((count_mk hZ ke jj).trans hr7.symm)
    refine lv_aload_n hx hb dL_law_1023 rfl (lv_at hl 5 rfl) ?_
    refine lv_iconst (v := 0) hx hb dL_law_1024 (by decide) ?_
    refine w_lald hx hb hKL hLo dL_law_1025 ?_
    refine lv_iload hx hb dL_law_1026 (lv_at hl 0 rfl) ?_
    refine lv_i2l hx hb dL_law_1028 rfl ?_
    refine W.lcmp hx hb dL_law_1029 ?_
    rw [lg_same]
    refine lv_if_eq (tgt := 1035) hx hb dL_law_1030 rfl (fun _ => ?_) (fun h => absurd rfl h)
    refine lv_goto (tgt := 1485) hx hb dL_law_1035 rfl ?_
    refine W.widen (k := cells + 3) (n := slots + 18) (by omega) (by omega) (kk _ _ _ ⟨ln, bf, z, (y.1, y.2.1, y.2.2.1, y.2.2.2), ke, hs, ms, 0, cd, _, _, hM, hB3, RZ_le hZ (by omega), RHs_le hR (by omega), hcd, hLo, hDo⟩ hS (lv_sub hl [2, 3, 4, 5, 6, 7] rfl))
  · skip
    refine lv_istore (lv' := [(6, .int 1), (0, .ref b), (1, .ref (g 0)), (2, .ref (gm 0)), (3, .ref ao), (4, .ref ad), (5, .int (nI (4 * n)))]) hx hb dL_law_993 hl (by decide) rfl (fun ls hl => ?_)
    refine lv_aload_n hx hb dL_law_995 rfl (lv_at hl 3 rfl) ?_
    refine sc_load hx hb hX hbl hS hL hn (j := 1) (by decide) hw1 (lv_at hl 1 rfl) (lv_at hl 6 rfl) (by decide) dL_law_996 dL_law_997 dL_law_999 dL_law_1000 dL_law_1001 ?_
    refine va_calli (va_runV (As := [_]) (rest := []) ⟨hx, hb, hml, hown, hts⟩ (c_X6_count_no l E gm th ln bf y.1 y.2.1 y.2.2.1 y.2.2.2 ke ms w1 (inB_f (n := 6) rfl (by decide) (by decide) hc)) (cwV 1 hts gL_law_X6_count rfl rfl rfl (by decide +kernel) ⟨Nat.le_of_ble_eq_true rfl, Nat.le_of_ble_eq_true rfl⟩) ⟨wS.blind, hO.recv hK, fun U hU hW => wS.go hO hK C.hIm hU hW⟩ rfl rfl hl.1 rfl (lv_room (Nat.le_of_ble_eq_true rfl)) dL_law_1002 ⟨(by show cells + 1 + 0 ≤ 601024; omega), (by show slots + 6 + 0 ≤ 7293034; omega)⟩) hS (fun q _ h => hAn q h) (fun q h => hAn q h) (fun r_2 u2 t H_2 locs_2 ht hvm hw hB2 hz2 hk2 hS => ?_)
    have hM := hM.at hk2 hmg
    have hLo := (hk2 ao (oA.lt hLo) hmo).trans hLo
    have hDo := (hk2 ad (oA.lt hDo) hmd).trans hDo
    rw [ht] at hB2
    obtain rfl := hw
    refine lv_topi (fun r7 hr7 => ?_)
    refine lv_istore (lv' := [(7, .int r7), (6, .int 1), (0, .ref b), (1, .ref (g 0)), (2, .ref (gm 0)), (3, .ref ao), (4, .ref ad), (5, .int (nI (4 * n)))]) hx hb dL_law_1005 hl (by decide) rfl (fun ls hl => ?_)
    refine lv_aload_n hx hb dL_law_1007 rfl (lv_at hl 4 rfl) ?_
    refine va_calli (va_runV (As := []) (rest := []) ⟨hx, hb, hml, hown, hts⟩ (c_X6_thrown_ok l E gm 1 ln bf y.1 y.2.1 y.2.2.1 y.2.2.2 ke ms) (cwV 0 hts gL_law_X6_thrown rfl rfl rfl (by decide +kernel) ⟨Nat.le_of_ble_eq_true rfl, Nat.le_of_ble_eq_true rfl⟩) ⟨wS.blind, MOB.recv hK hB2, fun U hU hW => wS.go hB2 hK C.hIm hU hW⟩ rfl rfl hl.1 rfl (lv_room (Nat.le_of_ble_eq_true rfl)) dL_law_1008 ⟨(by show cells + 1 + 0 + 0 ≤ 601024; omega), (by show slots + 6 + 0 + 0 ≤ 7293034; omega)⟩) hS (fun q _ h => hAn q h) (fun q h => hAn q h) (fun r_3 u3 t H_3 locs_3 ht hvm hw hB3 hz3 hk3 hS => ?_)
    have hM := hM.at hk3 hmg
    have hLo := (hk3 ao (oA.lt hLo) hmo).trans hLo
    have hDo := (hk3 ad (oA.lt hDo) hmd).trans hDo
    rw [ht] at hB3
    obtain rfl := hw
    refine lv_iload hx hb dL_law_1011 (lv_at hl 1 rfl) ?_
    refine lv_icmp_eq (tgt := 1018) hx hb dL_law_1013 rfl (fun _ => ?_) (fun h => absurd rfl h)
    refine lv_iload hx hb dL_law_1018 (lv_at hl 1 rfl) ?_
    refine lv_if_ne (tgt := 1035) hx hb dL_law_1020 rfl (fun _ => ?_) (fun h => absurd h (by decide))
    refine lv_goto (tgt := 1485) hx hb dL_law_1035 rfl ?_
    refine W.widen (k := cells + 3) (n := slots + 18) (by omega) (by omega) (kk _ _ _ ⟨ln, bf, z, (y.1, y.2.1, y.2.2.1, y.2.2.2), ke, hs, ms, 1, cd, _, _, hM, hB3, RZ_le hZ (by omega), RHs_le hR (by omega), hcd, hLo, hDo⟩ hS (lv_sub hl [2, 3, 4, 5, 6, 7] rfl))
set_option maxHeartbeats 4000000 in
set_option maxRecDepth 100000 in
theorem law_block {p : Program} {l : Launch} {e : Env} {s : State} {m : MethodId} {below : List Frame} {meth : Method} {c : Code} {b L : Nat} {xs : Nat → Int32} {E : wE} {cL cD : ClassId} {g gm : Nat → Nat} {ao ad : Nat} (C : LC p l s m meth c b L xs E cL cD g gm ao ad) {n B : Nat} (hn : 4 * n + 4 ≤ L) (hB : B ≤ 60000) {H : Heap} {locs : List Loc} {cells slots : Nat} {ls : Array Slot} {Q : State → Prop} (hcl9 : cells + 3 ≤ 601024) (hsl9 : slots + 18 ≤ 7293034) (hI : LI E cL cD g gm ao ad B H) (hS : va_S (lwA s) s.heap H locs)
    (hl : lv_has ls 9 [(0, .ref b), (1, .ref (g 0)), (2, .ref (gm 0)), (3, .ref ao), (4, .ref ad), (5, .int (nI (4 * n)))])
    (kk : ∀ (H2 : Heap) (locs2 : List Loc) (ls2 : Array Slot), LI E cL cD g gm ao ad (B + 100) H2 → va_S (lwA s) s.heap H2 locs2 → lv_has ls2 9 [(0, .ref b), (1, .ref (g 0)), (2, .ref (gm 0)), (3, .ref ao), (4, .ref ad), (5, .int (nI (4 * n)))] → W p l e room_1 s m #[Value.ref b] below meth c H2 locs2 (cells + 3) (slots + 18) Q (F0 m 1485 ls2 [])) : W p l e room_1 s m #[Value.ref b] below meth c H locs cells slots Q (F0 m 1038 ls []) := by
  have hx := C.hx
  have hb := C.hb
  have hml := C.hml
  have hown := C.hown
  have hts := C.hts
  have hX := C.hX
  have hbl := C.hbl
  have hst := C.hst
  have hL := C.hL
  have hK := C.hK
  have hKL := C.hKL
  have hxe := C.hxe
  have hxc := C.hxc
  obtain ⟨ln, bf, z, y, ke, hs, ms, th, cd, x0, d0, hM, hO, hZ, hR, hcd, hLo, hDo⟩ := hI
  have hzr := hM.rng
  have hAn : ∀ q, wF 6 gm q → lwA s q := by rintro q ⟨k, hk, rfl⟩; exact C.hAm k hk
  have hmg : ∀ k, k < 94 → ¬ wF 6 gm (g k) := by rintro k hk ⟨j, hj, e9⟩; exact C.ngm k j hk hj e9
  have hmo : ¬ wF 6 gm ao := by rintro ⟨j, hj, e9⟩; exact C.nmo j hj e9.symm
  have hmd : ¬ wF 6 gm ad := by rintro ⟨j, hj, e9⟩; exact C.nmd j hj e9.symm
  have hAw : ∀ q, wA g ao q → lwA s q := by
    rintro q (⟨k, hk, rfl⟩ | rfl)
    · exact C.hAg k hk
    · exact C.hAo
  have hwm : ∀ k, k < 6 → ¬ wA g ao (gm k) := by
    rintro k hk (⟨j, hj, e9⟩ | e9)
    · exact C.ngm j k hj hk e9.symm
    · exact C.nmo k hk e9
  have hwo : ¬ wA g ao ad := by
    rintro (⟨j, hj, e9⟩ | e9)
    · exact C.ngd j hj e9.symm
    · exact C.nod e9.symm
  obtain ⟨w1, hw1⟩ : ∃ w, xs (4 * n + 1) = w := ⟨_, rfl⟩
  refine lv_aload_n hx hb dL_law_1038 rfl (lv_at hl 1 rfl) ?_
  refine sc_load hx hb hX hbl hS hL hn (j := 1) (by decide) hw1 (lv_at hl 0 rfl) (lv_at hl 5 rfl) (by decide) dL_law_1039 dL_law_1040 dL_law_1042 dL_law_1043 dL_law_1044 ?_
  refine lv_aload_n hx hb dL_law_1045 rfl (lv_at hl 3 rfl) ?_
  refine va_calli (vx_runSW (As := [.ref (g 0), .int w1, .ref ao]) (rest := []) ⟨hx, hb, hml, hown, hts⟩ (c_L_block l hst cL cD ao E g ln bf z ke hs w1) (vx_cwSW 3 hts gL_law_L_block rfl rfl rfl (by decide +kernel) ⟨Nat.le_of_ble_eq_true rfl, Nat.le_of_ble_eq_true rfl⟩) ⟨wL.blind, fun U hU hW => wL.go hM ⟨_, hLo⟩ hK hKL C.hI C.ngo hxe hxc hS hAw hU hW⟩ rfl rfl hl.1 rfl (lv_room (Nat.le_of_ble_eq_true rfl)) dL_law_1046 ⟨Nat.le_trans (Nat.add_le_add_left (by decide) cells) hcl9, Nat.le_trans (Nat.add_le_add_left (by decide) slots) hsl9⟩) hS (fun q _ h => hAw q h) (fun q h => hAw q h) (fun r_1 u1 t H_1 locs_1 ht hvm hw hB1 hz1 hk1 hS => ?_)
  obtain rfl : r_1 = u1 := hw
  rw [ht] at hB1
  have hO := hO.at hk1 hwm
  have hDo := (hk1 ad hDo.lt hwo).trans hDo
  clear hLo hM
  rcases hB1 with ⟨rfl, hc, hLo, hM⟩ | ⟨rfl, hc, ⟨x1, hLo⟩, hM⟩
  · skip
    obtain ⟨bk, hbk, rfl⟩ := i_in hc (by omega)
    have hcls : (nI bk).toNatClampNeg = bk := nI_clamp (by omega)
    simp only [hcls] at hM hLo
    refine lv_istore (lv' := [(6, .int 0), (0, .ref b), (1, .ref (g 0)), (2, .ref (gm 0)), (3, .ref ao), (4, .ref ad), (5, .int (nI (4 * n)))]) hx hb dL_law_1049 hl (by decide) rfl (fun ls hl => ?_)
    refine lv_aload_n hx hb dL_law_1051 rfl (lv_at hl 3 rfl) ?_
    refine sc_load hx hb hX hbl hS hL hn (j := 1) (by decide) hw1 (lv_at hl 1 rfl) (lv_at hl 6 rfl) (by decide) dL_law_1052 dL_law_1053 dL_law_1055 dL_law_1056 dL_law_1057 ?_
    refine va_calli (va_runV (As := [_]) (rest := []) ⟨hx, hb, hml, hown, hts⟩ (c_X6_block_ok l E gm th ln bf y.1 y.2.1 y.2.2.1 y.2.2.2 ke ms bk (by rw [← a_size hZ]; exact hbk)) (cwV 1 hts gL_law_X6_block rfl rfl rfl (by decide +kernel) ⟨Nat.le_of_ble_eq_true rfl, Nat.le_of_ble_eq_true rfl⟩) ⟨wS.blind, hO.recv hK, fun U hU hW => wS.go hO hK C.hIm hU hW⟩ rfl rfl hl.1 rfl (lv_room (Nat.le_of_ble_eq_true rfl)) dL_law_1058 ⟨(by show cells + 1 + 0 ≤ 601024; omega), (by show slots + 6 + 0 ≤ 7293034; omega)⟩) hS (fun q _ h => hAn q h) (fun q h => hAn q h) (fun r_2 u2 t H_2 locs_2 ht hvm hw hB2 hz2 hk2 hS => ?_)
    have hM := hM.at hk2 hmg
    have hLo := (hk2 ao (oA.lt hLo) hmo).trans hLo
    have hDo := (hk2 ad (oA.lt hDo) hmd).trans hDo
    rw [ht] at hB2
    obtain rfl := hw
    refine lv_topi (fun r7 hr7 => ?_)
    refine lv_istore (lv' := [(7, .int r7), (6, .int 0), (0, .ref b), (1, .ref (g 0)), (2, .ref (gm 0)), (3, .ref ao), (4, .ref ad), (5, .int (nI (4 * n)))]) hx hb dL_law_1061 hl (by decide) rfl (fun ls hl => ?_)
    refine lv_aload_n hx hb dL_law_1063 rfl (lv_at hl 4 rfl) ?_
    refine va_calli (va_runV (As := []) (rest := []) ⟨hx, hb, hml, hown, hts⟩ (c_X6_thrown_ok l E gm 0 ln bf y.1 y.2.1 y.2.2.1 y.2.2.2 ke ms) (cwV 0 hts gL_law_X6_thrown rfl rfl rfl (by decide +kernel) ⟨Nat.le_of_ble_eq_true rfl, Nat.le_of_ble_eq_true rfl⟩) ⟨wS.blind, MOB.recv hK hB2, fun U hU hW => wS.go hB2 hK C.hIm hU hW⟩ rfl rfl hl.1 rfl (lv_room (Nat.le_of_ble_eq_true rfl)) dL_law_1064 ⟨(by show cells + 1 + 0 + 0 ≤ 601024; omega), (by show slots + 6 + 0 + 0 ≤ 7293034; omega)⟩) hS (fun q _ h => hAn q h) (fun q h => hAn q h) (fun r_3 u3 t H_3 locs_3 ht hvm hw hB3 hz3 hk3 hS => ?_)
    have hM := hM.at hk3 hmg
    have hLo := (hk3 ao (oA.lt hLo) hmo).trans hLo
    have hDo := (hk3 ad (oA.lt hDo) hmd).trans hDo
    rw [ht] at hB3
    obtain rfl := hw
    refine lv_iload hx hb dL_law_1067 (lv_at hl 1 rfl) ?_
    refine lv_icmp_eq (tgt := 1074) hx hb dL_law_1069 rfl (fun _ => ?_) (fun h => absurd rfl h)
    refine lv_iload hx hb dL_law_1074 (lv_at hl 1 rfl) ?_
    refine lv_if_ne (tgt := 1091) hx hb dL_law_1076 rfl (fun h => absurd rfl h) (fun _ => ?_)
    have hLo := oA_eq hLo ((congrFun (a_va hZ) bk).trans hr7.symm)
    refine lv_aload_n hx hb dL_law_1079 rfl (lv_at hl 5 rfl) ?_
    refine lv_iconst (v := 0) hx hb dL_law_1080 (by decide) ?_
    refine w_lald hx hb hKL hLo dL_law_1081 ?_
    refine lv_iload hx hb dL_law_1082 (lv_at hl 0 rfl) ?_
    refine lv_i2l hx hb dL_law_1084 rfl ?_
    refine W.lcmp hx hb dL_law_1085 ?_
    rw [lg_same]
    refine lv_if_eq (tgt := 1091) hx hb dL_law_1086 rfl (fun _ => ?_) (fun h => absurd rfl h)
    refine lv_goto (tgt := 1485) hx hb dL_law_1091 rfl ?_
    refine W.widen (k := cells + 3) (n := slots + 18) (by omega) (by omega) (kk _ _ _ ⟨ln, bf, z, (y.1, y.2.1, y.2.2.1, y.2.2.2), ke, hs, ms, 0, cd, _, _, hM, hB3, RZ_le hZ (by omega), RHs_le hR (by omega), hcd, hLo, hDo⟩ hS (lv_sub hl [2, 3, 4, 5, 6, 7] rfl))
  · skip
    refine lv_istore (lv' := [(6, .int 1), (0, .ref b), (1, .ref (g 0)), (2, .ref (gm 0)), (3, .ref ao), (4, .ref ad), (5, .int (nI (4 * n)))]) hx hb dL_law_1049 hl (by decide) rfl (fun ls hl => ?_)
    refine lv_aload_n hx hb dL_law_1051 rfl (lv_at hl 3 rfl) ?_
    refine sc_load hx hb hX hbl hS hL hn (j := 1) (by decide) hw1 (lv_at hl 1 rfl) (lv_at hl 6 rfl) (by decide) dL_law_1052 dL_law_1053 dL_law_1055 dL_law_1056 dL_law_1057 ?_
    refine va_calli (va_runV (As := [_]) (rest := []) ⟨hx, hb, hml, hown, hts⟩ (c_X6_block_no l E gm th ln bf y.1 y.2.1 y.2.2.1 y.2.2.2 ke ms w1 (inB_f rfl (by have := a_size hZ; omega) (by have := a_size hZ; omega) (by rw [← a_size hZ]; exact hc))) (cwV 1 hts gL_law_X6_block rfl rfl rfl (by decide +kernel) ⟨Nat.le_of_ble_eq_true rfl, Nat.le_of_ble_eq_true rfl⟩) ⟨wS.blind, hO.recv hK, fun U hU hW => wS.go hO hK C.hIm hU hW⟩ rfl rfl hl.1 rfl (lv_room (Nat.le_of_ble_eq_true rfl)) dL_law_1058 ⟨(by show cells + 1 + 0 ≤ 601024; omega), (by show slots + 6 + 0 ≤ 7293034; omega)⟩) hS (fun q _ h => hAn q h) (fun q h => hAn q h) (fun r_2 u2 t H_2 locs_2 ht hvm hw hB2 hz2 hk2 hS => ?_)
    have hM := hM.at hk2 hmg
    have hLo := (hk2 ao (oA.lt hLo) hmo).trans hLo
    have hDo := (hk2 ad (oA.lt hDo) hmd).trans hDo
    rw [ht] at hB2
    obtain rfl := hw
    refine lv_topi (fun r7 hr7 => ?_)
    refine lv_istore (lv' := [(7, .int r7), (6, .int 1), (0, .ref b), (1, .ref (g 0)), (2, .ref (gm 0)), (3, .ref ao), (4, .ref ad), (5, .int (nI (4 * n)))]) hx hb dL_law_1061 hl (by decide) rfl (fun ls hl => ?_)
    refine lv_aload_n hx hb dL_law_1063 rfl (lv_at hl 4 rfl) ?_
    refine va_calli (va_runV (As := []) (rest := []) ⟨hx, hb, hml, hown, hts⟩ (c_X6_thrown_ok l E gm 1 ln bf y.1 y.2.1 y.2.2.1 y.2.2.2 ke ms) (cwV 0 hts gL_law_X6_thrown rfl rfl rfl (by decide +kernel) ⟨Nat.le_of_ble_eq_true rfl, Nat.le_of_ble_eq_true rfl⟩) ⟨wS.blind, MOB.recv hK hB2, fun U hU hW => wS.go hB2 hK C.hIm hU hW⟩ rfl rfl hl.1 rfl (lv_room (Nat.le_of_ble_eq_true rfl)) dL_law_1064 ⟨(by show cells + 1 + 0 + 0 ≤ 601024; omega), (by show slots + 6 + 0 + 0 ≤ 7293034; omega)⟩) hS (fun q _ h => hAn q h) (fun q h => hAn q h) (fun r_3 u3 t H_3 locs_3 ht hvm hw hB3 hz3 hk3 hS => ?_)
    have hM := hM.at hk3 hmg
    have hLo := (hk3 ao (oA.lt hLo) hmo).trans hLo
    have hDo := (hk3 ad (oA.lt hDo) hmd).trans hDo
    rw [ht] at hB3
    obtain rfl := hw
    refine lv_iload hx hb dL_law_1067 (lv_at hl 1 rfl) ?_
    refine lv_icmp_eq (tgt := 1074) hx hb dL_law_1069 rfl (fun _ => ?_) (fun h => absurd rfl h)
    refine lv_iload hx hb dL_law_1074 (lv_at hl 1 rfl) ?_
    refine lv_if_ne (tgt := 1091) hx hb dL_law_1076 rfl (fun _ => ?_) (fun h => absurd h (by decide))
    refine lv_goto (tgt := 1485) hx hb dL_law_1091 rfl ?_
    refine W.widen (k := cells + 3) (n := slots + 18) (by omega) (by omega) (kk _ _ _ ⟨ln, bf, z, (y.1, y.2.1, y.2.2.1, y.2.2.2), ke, hs, ms, 1, cd, _, _, hM, hB3, RZ_le hZ (by omega), RHs_le hR (by omega), hcd, hLo, hDo⟩ hS (lv_sub hl [2, 3, 4, 5, 6, 7] rfl))
set_option maxHeartbeats 4000000 in
set_option maxRecDepth 100000 in
theorem law_ifGot {p : Program} {l : Launch} {e : Env} {s : State} {m : MethodId} {below : List Frame} {meth : Method} {c : Code} {b L : Nat} {xs : Nat → Int32} {E : wE} {cL cD : ClassId} {g gm : Nat → Nat} {ao ad : Nat} (C : LC p l s m meth c b L xs E cL cD g gm ao ad) {n B : Nat} (hn : 4 * n + 4 ≤ L) (hB : B ≤ 60000) {H : Heap} {locs : List Loc} {cells slots : Nat} {ls : Array Slot} {Q : State → Prop} (hcl9 : cells + 3 ≤ 601024) (hsl9 : slots + 18 ≤ 7293034) (hI : LI E cL cD g gm ao ad B H) (hS : va_S (lwA s) s.heap H locs)
    (hl : lv_has ls 9 [(0, .ref b), (1, .ref (g 0)), (2, .ref (gm 0)), (3, .ref ao), (4, .ref ad), (5, .int (nI (4 * n)))])
    (kk : ∀ (H2 : Heap) (locs2 : List Loc) (ls2 : Array Slot), LI E cL cD g gm ao ad (B + 100) H2 → va_S (lwA s) s.heap H2 locs2 → lv_has ls2 9 [(0, .ref b), (1, .ref (g 0)), (2, .ref (gm 0)), (3, .ref ao), (4, .ref ad), (5, .int (nI (4 * n)))] → W p l e room_1 s m #[Value.ref b] below meth c H2 locs2 (cells + 3) (slots + 18) Q (F0 m 1485 ls2 [])) : W p l e room_1 s m #[Value.ref b] below meth c H locs cells slots Q (F0 m 1094 ls []) := by
  have hx := C.hx
  have hb := C.hb
  have hml := C.hml
  have hown := C.hown
  have hts := C.hts
  have hX := C.hX
  have hbl := C.hbl
  have hst := C.hst
  have hL := C.hL
  have hK := C.hK
  have hKL := C.hKL
  have hxe := C.hxe
  have hxc := C.hxc
  obtain ⟨ln, bf, z, y, ke, hs, ms, th, cd, x0, d0, hM, hO, hZ, hR, hcd, hLo, hDo⟩ := hI
  have hzr := hM.rng
  have hAn : ∀ q, wF 6 gm q → lwA s q := by rintro q ⟨k, hk, rfl⟩; exact C.hAm k hk
  have hmg : ∀ k, k < 94 → ¬ wF 6 gm (g k) := by rintro k hk ⟨j, hj, e9⟩; exact C.ngm k j hk hj e9
  have hmo : ¬ wF 6 gm ao := by rintro ⟨j, hj, e9⟩; exact C.nmo j hj e9.symm
  have hmd : ¬ wF 6 gm ad := by rintro ⟨j, hj, e9⟩; exact C.nmd j hj e9.symm
  have hAw : ∀ q, wA g ao q → lwA s q := by
    rintro q (⟨k, hk, rfl⟩ | rfl)
    · exact C.hAg k hk
    · exact C.hAo
  have hwm : ∀ k, k < 6 → ¬ wA g ao (gm k) := by
    rintro k hk (⟨j, hj, e9⟩ | e9)
    · exact C.ngm j k hj hk e9.symm
    · exact C.nmo k hk e9
  have hwo : ¬ wA g ao ad := by
    rintro (⟨j, hj, e9⟩ | e9)
    · exact C.ngd j hj e9.symm
    · exact C.nod e9.symm
  obtain ⟨w1, hw1⟩ : ∃ w, xs (4 * n + 1) = w := ⟨_, rfl⟩
  obtain ⟨w2, hw2⟩ : ∃ w, xs (4 * n + 2) = w := ⟨_, rfl⟩
  obtain ⟨w3, hw3⟩ : ∃ w, xs (4 * n + 3) = w := ⟨_, rfl⟩
  refine lv_aload_n hx hb dL_law_1094 rfl (lv_at hl 1 rfl) ?_
  refine sc_load hx hb hX hbl hS hL hn (j := 1) (by decide) hw1 (lv_at hl 0 rfl) (lv_at hl 5 rfl) (by decide) dL_law_1095 dL_law_1096 dL_law_1098 dL_law_1099 dL_law_1100 ?_
  refine sc_load hx hb hX hbl hS hL hn (j := 2) (by decide) hw2 (lv_at hl 0 rfl) (lv_at hl 5 rfl) (by decide) dL_law_1101 dL_law_1102 dL_law_1104 dL_law_1105 dL_law_1106 ?_
  refine sc_load hx hb hX hbl hS hL hn (j := 3) (by decide) hw3 (lv_at hl 0 rfl) (lv_at hl 5 rfl) (by decide) dL_law_1107 dL_law_1108 dL_law_1110 dL_law_1111 dL_law_1112 ?_
  refine lv_aload_n hx hb dL_law_1113 rfl (lv_at hl 3 rfl) ?_
  refine va_calli (vx_runSW (As := [.ref (g 0), .int w1, .int w2, .int w3, .ref ao]) (rest := []) ⟨hx, hb, hml, hown, hts⟩ (c_L_ifGot l hst cL cD ao E g ln bf z ke hs w1 w2 w3) (vx_cwSW 5 hts gL_law_L_ifGot rfl rfl rfl (by decide +kernel) ⟨Nat.le_of_ble_eq_true rfl, Nat.le_of_ble_eq_true rfl⟩) ⟨wL.blind, fun U hU hW => wL.go hM ⟨_, hLo⟩ hK hKL C.hI C.ngo hxe hxc hS hAw hU hW⟩ rfl rfl hl.1 rfl (lv_room (Nat.le_of_ble_eq_true rfl)) dL_law_1114 ⟨Nat.le_trans (Nat.add_le_add_left (by decide) cells) hcl9, Nat.le_trans (Nat.add_le_add_left (by decide) slots) hsl9⟩) hS (fun q _ h => hAw q h) (fun q h => hAw q h) (fun r_1 u1 t H_1 locs_1 ht hvm hw hB1 hz1 hk1 hS => ?_)
  obtain rfl : r_1 = u1 := hw
  rw [ht] at hB1
  have hO := hO.at hk1 hwm
  have hDo := (hk1 ad hDo.lt hwo).trans hDo
  clear hLo hM
  rcases hB1 with ⟨rfl, hc, hLo, hM⟩ | ⟨rfl, hc, ⟨x1, hLo⟩, hM⟩ | ⟨rfl, hc, ⟨x1, hLo⟩, hM⟩
  · skip
    obtain ⟨uu, huu, rfl⟩ := i_in hc.1 (by decide)
    obtain ⟨k0, hk0, rfl⟩ := i_in hc.2.1 (by decide)
    obtain ⟨jj, hjj, rfl⟩ := i_in hc.2.2 (by decide)
    have hcls : (nI uu).toNatClampNeg = uu ∧ (nI k0).toNatClampNeg = k0 ∧ (nI jj).toNatClampNeg = jj := ⟨nI_clamp (by omega), nI_clamp (by omega), nI_clamp (by omega)⟩
    simp only [hcls] at hM hLo
    refine lv_istore (lv' := [(6, .int 0), (0, .ref b), (1, .ref (g 0)), (2, .ref (gm 0)), (3, .ref ao), (4, .ref ad), (5, .int (nI (4 * n)))]) hx hb dL_law_1117 hl (by decide) rfl (fun ls hl => ?_)
    refine lv_aload_n hx hb dL_law_1119 rfl (lv_at hl 3 rfl) ?_
    refine sc_load hx hb hX hbl hS hL hn (j := 1) (by decide) hw1 (lv_at hl 1 rfl) (lv_at hl 6 rfl) (by decide) dL_law_1120 dL_law_1121 dL_law_1123 dL_law_1124 dL_law_1125 ?_
    refine sc_load hx hb hX hbl hS hL hn (j := 2) (by decide) hw2 (lv_at hl 1 rfl) (lv_at hl 6 rfl) (by decide) dL_law_1126 dL_law_1127 dL_law_1129 dL_law_1130 dL_law_1131 ?_
    refine sc_load hx hb hX hbl hS hL hn (j := 3) (by decide) hw3 (lv_at hl 1 rfl) (lv_at hl 6 rfl) (by decide) dL_law_1132 dL_law_1133 dL_law_1135 dL_law_1136 dL_law_1137 ?_
    refine va_calli (va_runV (As := [_, _, _]) (rest := []) ⟨hx, hb, hml, hown, hts⟩ (c_X6_ifGot_ok l E gm th ln bf y.1 y.2.1 y.2.2.1 y.2.2.2 ke ms uu huu k0 jj hk0 hjj) (cwV 3 hts gL_law_X6_ifGot rfl rfl rfl (by decide +kernel) ⟨Nat.le_of_ble_eq_true rfl, Nat.le_of_ble_eq_true rfl⟩) ⟨wS.blind, hO.recv hK, fun U hU hW => wS.go hO hK C.hIm hU hW⟩ rfl rfl hl.1 rfl (lv_room (Nat.le_of_ble_eq_true rfl)) dL_law_1138 ⟨(by show cells + 3 + 0 ≤ 601024; omega), (by show slots + 18 + 0 ≤ 7293034; omega)⟩) hS (fun q _ h => hAn q h) (fun q h => hAn q h) (fun r_2 u2 t H_2 locs_2 ht hvm hw hB2 hz2 hk2 hS => ?_)
    have hM := hM.at hk2 hmg
    have hLo := (hk2 ao (oA.lt hLo) hmo).trans hLo
    have hDo := (hk2 ad (oA.lt hDo) hmd).trans hDo
    rw [ht] at hB2
    obtain rfl := hw
    refine lv_topi (fun r7 hr7 => ?_)
    refine lv_istore (lv' := [(7, .int r7), (6, .int 0), (0, .ref b), (1, .ref (g 0)), (2, .ref (gm 0)), (3, .ref ao), (4, .ref ad), (5, .int (nI (4 * n)))]) hx hb dL_law_1141 hl (by decide) rfl (fun ls hl => ?_)
    refine lv_aload_n hx hb dL_law_1143 rfl (lv_at hl 4 rfl) ?_
    refine va_calli (va_runV (As := []) (rest := []) ⟨hx, hb, hml, hown, hts⟩ (c_X6_thrown_ok l E gm 0 ln bf y.1 y.2.1 y.2.2.1 y.2.2.2 ke ms) (cwV 0 hts gL_law_X6_thrown rfl rfl rfl (by decide +kernel) ⟨Nat.le_of_ble_eq_true rfl, Nat.le_of_ble_eq_true rfl⟩) ⟨wS.blind, MOB.recv hK hB2, fun U hU hW => wS.go hB2 hK C.hIm hU hW⟩ rfl rfl hl.1 rfl (lv_room (Nat.le_of_ble_eq_true rfl)) dL_law_1144 ⟨(by show cells + 3 + 0 + 0 ≤ 601024; omega), (by show slots + 18 + 0 + 0 ≤ 7293034; omega)⟩) hS (fun q _ h => hAn q h) (fun q h => hAn q h) (fun r_3 u3 t H_3 locs_3 ht hvm hw hB3 hz3 hk3 hS => ?_)
    have hM := hM.at hk3 hmg
    have hLo := (hk3 ao (oA.lt hLo) hmo).trans hLo
    have hDo := (hk3 ad (oA.lt hDo) hmd).trans hDo
    rw [ht] at hB3
    obtain rfl := hw
    refine lv_iload hx hb dL_law_1147 (lv_at hl 1 rfl) ?_
    refine lv_icmp_eq (tgt := 1154) hx hb dL_law_1149 rfl (fun _ => ?_) (fun h => absurd rfl h)
    refine lv_iload hx hb dL_law_1154 (lv_at hl 1 rfl) ?_
    refine lv_if_ne (tgt := 1171) hx hb dL_law_1156 rfl (fun h => absurd rfl h) (fun _ => ?_)
    have hLo := oA_eq hLo (((show (if jj = 0 then (getS (mixS z.1 z.2.1 k0) (z.2.2.2 uu).2).1 else rankQ (getS (mixS z.1 z.2.1 k0) (z.2.2.2 uu).2).2) = (if jj = 0 then gtv (mskM y.1 k0) (y.2.2.2 uu) else rnkM (getM (mskM y.1 k0) (y.2.2.2 uu).2)) from by rw [a_got0 hZ huu k0, a_got1 hZ huu k0])).trans hr7.symm)
    refine lv_aload_n hx hb dL_law_1159 rfl (lv_at hl 5 rfl) ?_
    refine lv_iconst (v := 0) hx hb dL_law_1160 (by decide) ?_
    refine w_lald hx hb hKL hLo dL_law_1161 ?_
    refine lv_iload hx hb dL_law_1162 (lv_at hl 0 rfl) ?_
    refine lv_i2l hx hb dL_law_1164 rfl ?_
    refine W.lcmp hx hb dL_law_1165 ?_
    rw [lg_same]
    refine lv_if_eq (tgt := 1171) hx hb dL_law_1166 rfl (fun _ => ?_) (fun h => absurd rfl h)
    refine lv_goto (tgt := 1485) hx hb dL_law_1171 rfl ?_
    refine W.widen (k := cells + 3) (n := slots + 18) (by omega) (by omega) (kk _ _ _ ⟨ln, bf, z, (y.1, y.2.1, y.2.2.1, y.2.2.2), ke, hs, ms, 0, cd, _, _, hM, hB3, RZ_le hZ (by omega), RHs_le hR (by omega), hcd, hLo, hDo⟩ hS (lv_sub hl [2, 3, 4, 5, 6, 7] rfl))
  · skip
    refine lv_istore (lv' := [(6, .int 1), (0, .ref b), (1, .ref (g 0)), (2, .ref (gm 0)), (3, .ref ao), (4, .ref ad), (5, .int (nI (4 * n)))]) hx hb dL_law_1117 hl (by decide) rfl (fun ls hl => ?_)
    refine lv_aload_n hx hb dL_law_1119 rfl (lv_at hl 3 rfl) ?_
    refine sc_load hx hb hX hbl hS hL hn (j := 1) (by decide) hw1 (lv_at hl 1 rfl) (lv_at hl 6 rfl) (by decide) dL_law_1120 dL_law_1121 dL_law_1123 dL_law_1124 dL_law_1125 ?_
    refine sc_load hx hb hX hbl hS hL hn (j := 2) (by decide) hw2 (lv_at hl 1 rfl) (lv_at hl 6 rfl) (by decide) dL_law_1126 dL_law_1127 dL_law_1129 dL_law_1130 dL_law_1131 ?_
    refine sc_load hx hb hX hbl hS hL hn (j := 3) (by decide) hw3 (lv_at hl 1 rfl) (lv_at hl 6 rfl) (by decide) dL_law_1132 dL_law_1133 dL_law_1135 dL_law_1136 dL_law_1137 ?_
    refine va_calli (va_runV (As := [_, _, _]) (rest := []) ⟨hx, hb, hml, hown, hts⟩ (c_X6_ifGot_no1 l E gm th ln bf y.1 y.2.1 y.2.2.1 y.2.2.2 ke ms w1 w2 w3 (inB_f (n := 3) rfl (by decide) (by decide) hc)) (cwV 3 hts gL_law_X6_ifGot rfl rfl rfl (by decide +kernel) ⟨Nat.le_of_ble_eq_true rfl, Nat.le_of_ble_eq_true rfl⟩) ⟨wS.blind, hO.recv hK, fun U hU hW => wS.go hO hK C.hIm hU hW⟩ rfl rfl hl.1 rfl (lv_room (Nat.le_of_ble_eq_true rfl)) dL_law_1138 ⟨(by show cells + 3 + 0 ≤ 601024; omega), (by show slots + 18 + 0 ≤ 7293034; omega)⟩) hS (fun q _ h => hAn q h) (fun q h => hAn q h) (fun r_2 u2 t H_2 locs_2 ht hvm hw hB2 hz2 hk2 hS => ?_)
    have hM := hM.at hk2 hmg
    have hLo := (hk2 ao (oA.lt hLo) hmo).trans hLo
    have hDo := (hk2 ad (oA.lt hDo) hmd).trans hDo
    rw [ht] at hB2
    obtain rfl := hw
    refine lv_topi (fun r7 hr7 => ?_)
    refine lv_istore (lv' := [(7, .int r7), (6, .int 1), (0, .ref b), (1, .ref (g 0)), (2, .ref (gm 0)), (3, .ref ao), (4, .ref ad), (5, .int (nI (4 * n)))]) hx hb dL_law_1141 hl (by decide) rfl (fun ls hl => ?_)
    refine lv_aload_n hx hb dL_law_1143 rfl (lv_at hl 4 rfl) ?_
    refine va_calli (va_runV (As := []) (rest := []) ⟨hx, hb, hml, hown, hts⟩ (c_X6_thrown_ok l E gm 1 ln bf y.1 y.2.1 y.2.2.1 y.2.2.2 ke ms) (cwV 0 hts gL_law_X6_thrown rfl rfl rfl (by decide +kernel) ⟨Nat.le_of_ble_eq_true rfl, Nat.le_of_ble_eq_true rfl⟩) ⟨wS.blind, MOB.recv hK hB2, fun U hU hW => wS.go hB2 hK C.hIm hU hW⟩ rfl rfl hl.1 rfl (lv_room (Nat.le_of_ble_eq_true rfl)) dL_law_1144 ⟨(by show cells + 3 + 0 + 0 ≤ 601024; omega), (by show slots + 18 + 0 + 0 ≤ 7293034; omega)⟩) hS (fun q _ h => hAn q h) (fun q h => hAn q h) (fun r_3 u3 t H_3 locs_3 ht hvm hw hB3 hz3 hk3 hS => ?_)
    have hM := hM.at hk3 hmg
    have hLo := (hk3 ao (oA.lt hLo) hmo).trans hLo
    have hDo := (hk3 ad (oA.lt hDo) hmd).trans hDo
    rw [ht] at hB3
    obtain rfl := hw
    refine lv_iload hx hb dL_law_1147 (lv_at hl 1 rfl) ?_
    refine lv_icmp_eq (tgt := 1154) hx hb dL_law_1149 rfl (fun _ => ?_) (fun h => absurd rfl h)
    refine lv_iload hx hb dL_law_1154 (lv_at hl 1 rfl) ?_
    refine lv_if_ne (tgt := 1171) hx hb dL_law_1156 rfl (fun _ => ?_) (fun h => absurd h (by decide))
    refine lv_goto (tgt := 1485) hx hb dL_law_1171 rfl ?_
    refine W.widen (k := cells + 3) (n := slots + 18) (by omega) (by omega) (kk _ _ _ ⟨ln, bf, z, (y.1, y.2.1, y.2.2.1, y.2.2.2), ke, hs, ms, 1, cd, _, _, hM, hB3, RZ_le hZ (by omega), RHs_le hR (by omega), hcd, hLo, hDo⟩ hS (lv_sub hl [2, 3, 4, 5, 6, 7] rfl))
  · by_cases hq : vp_in w2 10000
    · skip
      refine lv_istore (lv' := [(6, .int 2), (0, .ref b), (1, .ref (g 0)), (2, .ref (gm 0)), (3, .ref ao), (4, .ref ad), (5, .int (nI (4 * n)))]) hx hb dL_law_1117 hl (by decide) rfl (fun ls hl => ?_)
      refine lv_aload_n hx hb dL_law_1119 rfl (lv_at hl 3 rfl) ?_
      refine sc_load hx hb hX hbl hS hL hn (j := 1) (by decide) hw1 (lv_at hl 1 rfl) (lv_at hl 6 rfl) (by decide) dL_law_1120 dL_law_1121 dL_law_1123 dL_law_1124 dL_law_1125 ?_
      refine sc_load hx hb hX hbl hS hL hn (j := 2) (by decide) hw2 (lv_at hl 1 rfl) (lv_at hl 6 rfl) (by decide) dL_law_1126 dL_law_1127 dL_law_1129 dL_law_1130 dL_law_1131 ?_
      refine sc_load hx hb hX hbl hS hL hn (j := 3) (by decide) hw3 (lv_at hl 1 rfl) (lv_at hl 6 rfl) (by decide) dL_law_1132 dL_law_1133 dL_law_1135 dL_law_1136 dL_law_1137 ?_
      refine va_calli (va_runV (As := [_, _, _]) (rest := []) ⟨hx, hb, hml, hown, hts⟩ (c_X6_ifGot_no3 l E gm th ln bf y.1 y.2.1 y.2.2.1 y.2.2.2 ke ms w1 w2 w3 (inB_v (n := 3) rfl (by decide) (by decide) hc.1) (inB_v (n := 10000) rfl (by decide) (by decide) hq) (inB_f (n := 2) rfl (by decide) (by decide) (fun q => hc.2 ⟨hq, q⟩))) (cwV 3 hts gL_law_X6_ifGot rfl rfl rfl (by decide +kernel) ⟨Nat.le_of_ble_eq_true rfl, Nat.le_of_ble_eq_true rfl⟩) ⟨wS.blind, hO.recv hK, fun U hU hW => wS.go hO hK C.hIm hU hW⟩ rfl rfl hl.1 rfl (lv_room (Nat.le_of_ble_eq_true rfl)) dL_law_1138 ⟨(by show cells + 3 + 0 ≤ 601024; omega), (by show slots + 18 + 0 ≤ 7293034; omega)⟩) hS (fun q _ h => hAn q h) (fun q h => hAn q h) (fun r_2 u2 t H_2 locs_2 ht hvm hw hB2 hz2 hk2 hS => ?_)
      have hM := hM.at hk2 hmg
      have hLo := (hk2 ao (oA.lt hLo) hmo).trans hLo
      have hDo := (hk2 ad (oA.lt hDo) hmd).trans hDo
      rw [ht] at hB2
      obtain rfl := hw
      refine lv_topi (fun r7 hr7 => ?_)
      refine lv_istore (lv' := [(7, .int r7), (6, .int 2), (0, .ref b), (1, .ref (g 0)), (2, .ref (gm 0)), (3, .ref ao), (4, .ref ad), (5, .int (nI (4 * n)))]) hx hb dL_law_1141 hl (by decide) rfl (fun ls hl => ?_)
      refine lv_aload_n hx hb dL_law_1143 rfl (lv_at hl 4 rfl) ?_
      refine va_calli (va_runV (As := []) (rest := []) ⟨hx, hb, hml, hown, hts⟩ (c_X6_thrown_ok l E gm 2 ln bf y.1 y.2.1 y.2.2.1 y.2.2.2 ke ms) (cwV 0 hts gL_law_X6_thrown rfl rfl rfl (by decide +kernel) ⟨Nat.le_of_ble_eq_true rfl, Nat.le_of_ble_eq_true rfl⟩) ⟨wS.blind, MOB.recv hK hB2, fun U hU hW => wS.go hB2 hK C.hIm hU hW⟩ rfl rfl hl.1 rfl (lv_room (Nat.le_of_ble_eq_true rfl)) dL_law_1144 ⟨(by show cells + 3 + 0 + 0 ≤ 601024; omega), (by show slots + 18 + 0 + 0 ≤ 7293034; omega)⟩) hS (fun q _ h => hAn q h) (fun q h => hAn q h) (fun r_3 u3 t H_3 locs_3 ht hvm hw hB3 hz3 hk3 hS => ?_)
      have hM := hM.at hk3 hmg
      have hLo := (hk3 ao (oA.lt hLo) hmo).trans hLo
      have hDo := (hk3 ad (oA.lt hDo) hmd).trans hDo
      rw [ht] at hB3
      obtain rfl := hw
      refine lv_iload hx hb dL_law_1147 (lv_at hl 1 rfl) ?_
      refine lv_icmp_eq (tgt := 1154) hx hb dL_law_1149 rfl (fun _ => ?_) (fun h => absurd rfl h)
      refine lv_iload hx hb dL_law_1154 (lv_at hl 1 rfl) ?_
      refine lv_if_ne (tgt := 1171) hx hb dL_law_1156 rfl (fun _ => ?_) (fun h => absurd h (by decide))
      refine lv_goto (tgt := 1485) hx hb dL_law_1171 rfl ?_
      refine W.widen (k := cells + 3) (n := slots + 18) (by omega) (by omega) (kk _ _ _ ⟨ln, bf, z, (y.1, y.2.1, y.2.2.1, y.2.2.2), ke, hs, ms, 2, cd, _, _, hM, hB3, RZ_le hZ (by omega), RHs_le hR (by omega), hcd, hLo, hDo⟩ hS (lv_sub hl [2, 3, 4, 5, 6, 7] rfl))
    · skip
      refine lv_istore (lv' := [(6, .int 2), (0, .ref b), (1, .ref (g 0)), (2, .ref (gm 0)), (3, .ref ao), (4, .ref ad), (5, .int (nI (4 * n)))]) hx hb dL_law_1117 hl (by decide) rfl (fun ls hl => ?_)
      refine lv_aload_n hx hb dL_law_1119 rfl (lv_at hl 3 rfl) ?_
      refine sc_load hx hb hX hbl hS hL hn (j := 1) (by decide) hw1 (lv_at hl 1 rfl) (lv_at hl 6 rfl) (by decide) dL_law_1120 dL_law_1121 dL_law_1123 dL_law_1124 dL_law_1125 ?_
      refine sc_load hx hb hX hbl hS hL hn (j := 2) (by decide) hw2 (lv_at hl 1 rfl) (lv_at hl 6 rfl) (by decide) dL_law_1126 dL_law_1127 dL_law_1129 dL_law_1130 dL_law_1131 ?_
      refine sc_load hx hb hX hbl hS hL hn (j := 3) (by decide) hw3 (lv_at hl 1 rfl) (lv_at hl 6 rfl) (by decide) dL_law_1132 dL_law_1133 dL_law_1135 dL_law_1136 dL_law_1137 ?_
      refine va_calli (va_runV (As := [_, _, _]) (rest := []) ⟨hx, hb, hml, hown, hts⟩ (c_X6_ifGot_no2 l E gm th ln bf y.1 y.2.1 y.2.2.1 y.2.2.2 ke ms w1 w2 w3 (inB_v (n := 3) rfl (by decide) (by decide) hc.1) (inB_f (n := 10000) rfl (by decide) (by decide) hq)) (cwV 3 hts gL_law_X6_ifGot rfl rfl rfl (by decide +kernel) ⟨Nat.le_of_ble_eq_true rfl, Nat.le_of_ble_eq_true rfl⟩) ⟨wS.blind, hO.recv hK, fun U hU hW => wS.go hO hK C.hIm hU hW⟩ rfl rfl hl.1 rfl (lv_room (Nat.le_of_ble_eq_true rfl)) dL_law_1138 ⟨(by show cells + 3 + 0 ≤ 601024; omega), (by show slots + 18 + 0 ≤ 7293034; omega)⟩) hS (fun q _ h => hAn q h) (fun q h => hAn q h) (fun r_2 u2 t H_2 locs_2 ht hvm hw hB2 hz2 hk2 hS => ?_)
      have hM := hM.at hk2 hmg
      have hLo := (hk2 ao (oA.lt hLo) hmo).trans hLo
      have hDo := (hk2 ad (oA.lt hDo) hmd).trans hDo
      rw [ht] at hB2
      obtain rfl := hw
      refine lv_topi (fun r7 hr7 => ?_)
      refine lv_istore (lv' := [(7, .int r7), (6, .int 2), (0, .ref b), (1, .ref (g 0)), (2, .ref (gm 0)), (3, .ref ao), (4, .ref ad), (5, .int (nI (4 * n)))]) hx hb dL_law_1141 hl (by decide) rfl (fun ls hl => ?_)
      refine lv_aload_n hx hb dL_law_1143 rfl (lv_at hl 4 rfl) ?_
      refine va_calli (va_runV (As := []) (rest := []) ⟨hx, hb, hml, hown, hts⟩ (c_X6_thrown_ok l E gm 2 ln bf y.1 y.2.1 y.2.2.1 y.2.2.2 ke ms) (cwV 0 hts gL_law_X6_thrown rfl rfl rfl (by decide +kernel) ⟨Nat.le_of_ble_eq_true rfl, Nat.le_of_ble_eq_true rfl⟩) ⟨wS.blind, MOB.recv hK hB2, fun U hU hW => wS.go hB2 hK C.hIm hU hW⟩ rfl rfl hl.1 rfl (lv_room (Nat.le_of_ble_eq_true rfl)) dL_law_1144 ⟨(by show cells + 3 + 0 + 0 ≤ 601024; omega), (by show slots + 18 + 0 + 0 ≤ 7293034; omega)⟩) hS (fun q _ h => hAn q h) (fun q h => hAn q h) (fun r_3 u3 t H_3 locs_3 ht hvm hw hB3 hz3 hk3 hS => ?_)
      have hM := hM.at hk3 hmg
      have hLo := (hk3 ao (oA.lt hLo) hmo).trans hLo
      have hDo := (hk3 ad (oA.lt hDo) hmd).trans hDo
      rw [ht] at hB3
      obtain rfl := hw
      refine lv_iload hx hb dL_law_1147 (lv_at hl 1 rfl) ?_
      refine lv_icmp_eq (tgt := 1154) hx hb dL_law_1149 rfl (fun _ => ?_) (fun h => absurd rfl h)
      refine lv_iload hx hb dL_law_1154 (lv_at hl 1 rfl) ?_
      refine lv_if_ne (tgt := 1171) hx hb dL_law_1156 rfl (fun _ => ?_) (fun h => absurd h (by decide))
      refine lv_goto (tgt := 1485) hx hb dL_law_1171 rfl ?_
      refine W.widen (k := cells + 3) (n := slots + 18) (by omega) (by omega) (kk _ _ _ ⟨ln, bf, z, (y.1, y.2.1, y.2.2.1, y.2.2.2), ke, hs, ms, 2, cd, _, _, hM, hB3, RZ_le hZ (by omega), RHs_le hR (by omega), hcd, hLo, hDo⟩ hS (lv_sub hl [2, 3, 4, 5, 6, 7] rfl))
set_option maxHeartbeats 4000000 in
set_option maxRecDepth 100000 in
theorem law_helps {p : Program} {l : Launch} {e : Env} {s : State} {m : MethodId} {below : List Frame} {meth : Method} {c : Code} {b L : Nat} {xs : Nat → Int32} {E : wE} {cL cD : ClassId} {g gm : Nat → Nat} {ao ad : Nat} (C : LC p l s m meth c b L xs E cL cD g gm ao ad) {n B : Nat} (hn : 4 * n + 4 ≤ L) (hB : B ≤ 60000) {H : Heap} {locs : List Loc} {cells slots : Nat} {ls : Array Slot} {Q : State → Prop} (hcl9 : cells + 3 ≤ 601024) (hsl9 : slots + 18 ≤ 7293034) (hI : LI E cL cD g gm ao ad B H) (hS : va_S (lwA s) s.heap H locs)
    (hl : lv_has ls 9 [(0, .ref b), (1, .ref (g 0)), (2, .ref (gm 0)), (3, .ref ao), (4, .ref ad), (5, .int (nI (4 * n)))])
    (kk : ∀ (H2 : Heap) (locs2 : List Loc) (ls2 : Array Slot), LI E cL cD g gm ao ad (B + 100) H2 → va_S (lwA s) s.heap H2 locs2 → lv_has ls2 9 [(0, .ref b), (1, .ref (g 0)), (2, .ref (gm 0)), (3, .ref ao), (4, .ref ad), (5, .int (nI (4 * n)))] → W p l e room_1 s m #[Value.ref b] below meth c H2 locs2 (cells + 3) (slots + 18) Q (F0 m 1485 ls2 [])) : W p l e room_1 s m #[Value.ref b] below meth c H locs cells slots Q (F0 m 1174 ls []) := by
  have hx := C.hx
  have hb := C.hb
  have hml := C.hml
  have hown := C.hown
  have hts := C.hts
  have hX := C.hX
  have hbl := C.hbl
  have hst := C.hst
  have hL := C.hL
  have hK := C.hK
  have hKL := C.hKL
  have hxe := C.hxe
  have hxc := C.hxc
  obtain ⟨ln, bf, z, y, ke, hs, ms, th, cd, x0, d0, hM, hO, hZ, hR, hcd, hLo, hDo⟩ := hI
  have hzr := hM.rng
  have hAn : ∀ q, wF 6 gm q → lwA s q := by rintro q ⟨k, hk, rfl⟩; exact C.hAm k hk
  have hmg : ∀ k, k < 94 → ¬ wF 6 gm (g k) := by rintro k hk ⟨j, hj, e9⟩; exact C.ngm k j hk hj e9
  have hmo : ¬ wF 6 gm ao := by rintro ⟨j, hj, e9⟩; exact C.nmo j hj e9.symm
  have hmd : ¬ wF 6 gm ad := by rintro ⟨j, hj, e9⟩; exact C.nmd j hj e9.symm
  have hAw : ∀ q, wA g ao q → lwA s q := by
    rintro q (⟨k, hk, rfl⟩ | rfl)
    · exact C.hAg k hk
    · exact C.hAo
  have hwm : ∀ k, k < 6 → ¬ wA g ao (gm k) := by
    rintro k hk (⟨j, hj, e9⟩ | e9)
    · exact C.ngm j k hj hk e9.symm
    · exact C.nmo k hk e9
  have hwo : ¬ wA g ao ad := by
    rintro (⟨j, hj, e9⟩ | e9)
    · exact C.ngd j hj e9.symm
    · exact C.nod e9.symm
  obtain ⟨w1, hw1⟩ : ∃ w, xs (4 * n + 1) = w := ⟨_, rfl⟩
  obtain ⟨w2, hw2⟩ : ∃ w, xs (4 * n + 2) = w := ⟨_, rfl⟩
  refine lv_aload_n hx hb dL_law_1174 rfl (lv_at hl 1 rfl) ?_
  refine sc_load hx hb hX hbl hS hL hn (j := 1) (by decide) hw1 (lv_at hl 0 rfl) (lv_at hl 5 rfl) (by decide) dL_law_1175 dL_law_1176 dL_law_1178 dL_law_1179 dL_law_1180 ?_
  refine sc_load hx hb hX hbl hS hL hn (j := 2) (by decide) hw2 (lv_at hl 0 rfl) (lv_at hl 5 rfl) (by decide) dL_law_1181 dL_law_1182 dL_law_1184 dL_law_1185 dL_law_1186 ?_
  refine lv_aload_n hx hb dL_law_1187 rfl (lv_at hl 3 rfl) ?_
  refine va_calli (vx_runSW (As := [.ref (g 0), .int w1, .int w2, .ref ao]) (rest := []) ⟨hx, hb, hml, hown, hts⟩ (c_L_helps l hst cL cD ao E g ln bf z ke hs w1 w2) (vx_cwSW 4 hts gL_law_L_helps rfl rfl rfl (by decide +kernel) ⟨Nat.le_of_ble_eq_true rfl, Nat.le_of_ble_eq_true rfl⟩) ⟨wL.blind, fun U hU hW => wL.go hM ⟨_, hLo⟩ hK hKL C.hI C.ngo hxe hxc hS hAw hU hW⟩ rfl rfl hl.1 rfl (lv_room (Nat.le_of_ble_eq_true rfl)) dL_law_1188 ⟨Nat.le_trans (Nat.add_le_add_left (by decide) cells) hcl9, Nat.le_trans (Nat.add_le_add_left (by decide) slots) hsl9⟩) hS (fun q _ h => hAw q h) (fun q h => hAw q h) (fun r_1 u1 t H_1 locs_1 ht hvm hw hB1 hz1 hk1 hS => ?_)
  obtain rfl : r_1 = u1 := hw
  rw [ht] at hB1
  have hO := hO.at hk1 hwm
  have hDo := (hk1 ad hDo.lt hwo).trans hDo
  clear hLo hM
  rcases hB1 with ⟨rfl, hc, hLo, hM⟩ | ⟨rfl, hc, ⟨x1, hLo⟩, hM⟩ | ⟨rfl, hc, ⟨x1, hLo⟩, hM⟩
  · skip
    obtain ⟨uu, huu, rfl⟩ := i_in hc.1 (by decide)
    obtain ⟨k0, hk0, rfl⟩ := i_in hc.2 (by decide)
    have hcls : (nI uu).toNatClampNeg = uu ∧ (nI k0).toNatClampNeg = k0 := ⟨nI_clamp (by omega), nI_clamp (by omega)⟩
    simp only [hcls] at hM hLo
    refine lv_istore (lv' := [(6, .int 0), (0, .ref b), (1, .ref (g 0)), (2, .ref (gm 0)), (3, .ref ao), (4, .ref ad), (5, .int (nI (4 * n)))]) hx hb dL_law_1191 hl (by decide) rfl (fun ls hl => ?_)
    refine lv_aload_n hx hb dL_law_1193 rfl (lv_at hl 3 rfl) ?_
    refine sc_load hx hb hX hbl hS hL hn (j := 1) (by decide) hw1 (lv_at hl 1 rfl) (lv_at hl 6 rfl) (by decide) dL_law_1194 dL_law_1195 dL_law_1197 dL_law_1198 dL_law_1199 ?_
    refine sc_load hx hb hX hbl hS hL hn (j := 2) (by decide) hw2 (lv_at hl 1 rfl) (lv_at hl 6 rfl) (by decide) dL_law_1200 dL_law_1201 dL_law_1203 dL_law_1204 dL_law_1205 ?_
    refine va_calli (va_runV (As := [_, _]) (rest := []) ⟨hx, hb, hml, hown, hts⟩ (c_X6_helps_ok l E gm th ln bf y.1 y.2.1 y.2.2.1 y.2.2.2 ke ms uu huu k0 hk0) (cwV 2 hts gL_law_X6_helps rfl rfl rfl (by decide +kernel) ⟨Nat.le_of_ble_eq_true rfl, Nat.le_of_ble_eq_true rfl⟩) ⟨wS.blind, hO.recv hK, fun U hU hW => wS.go hO hK C.hIm hU hW⟩ rfl rfl hl.1 rfl (lv_room (Nat.le_of_ble_eq_true rfl)) dL_law_1206 ⟨(by show cells + 2 + 0 ≤ 601024; omega), (by show slots + 12 + 0 ≤ 7293034; omega)⟩) hS (fun q _ h => hAn q h) (fun q h => hAn q h) (fun r_2 u2 t H_2 locs_2 ht hvm hw hB2 hz2 hk2 hS => ?_)
    have hM := hM.at hk2 hmg
    have hLo := (hk2 ao (oA.lt hLo) hmo).trans hLo
    have hDo := (hk2 ad (oA.lt hDo) hmd).trans hDo
    rw [ht] at hB2
    obtain rfl := hw
    refine lv_topi (fun r7 hr7 => ?_)
    refine lv_istore (lv' := [(7, .int r7), (6, .int 0), (0, .ref b), (1, .ref (g 0)), (2, .ref (gm 0)), (3, .ref ao), (4, .ref ad), (5, .int (nI (4 * n)))]) hx hb dL_law_1209 hl (by decide) rfl (fun ls hl => ?_)
    refine lv_aload_n hx hb dL_law_1211 rfl (lv_at hl 4 rfl) ?_
    refine va_calli (va_runV (As := []) (rest := []) ⟨hx, hb, hml, hown, hts⟩ (c_X6_thrown_ok l E gm 0 ln bf y.1 y.2.1 y.2.2.1 y.2.2.2 ke ms) (cwV 0 hts gL_law_X6_thrown rfl rfl rfl (by decide +kernel) ⟨Nat.le_of_ble_eq_true rfl, Nat.le_of_ble_eq_true rfl⟩) ⟨wS.blind, MOB.recv hK hB2, fun U hU hW => wS.go hB2 hK C.hIm hU hW⟩ rfl rfl hl.1 rfl (lv_room (Nat.le_of_ble_eq_true rfl)) dL_law_1212 ⟨(by show cells + 2 + 0 + 0 ≤ 601024; omega), (by show slots + 12 + 0 + 0 ≤ 7293034; omega)⟩) hS (fun q _ h => hAn q h) (fun q h => hAn q h) (fun r_3 u3 t H_3 locs_3 ht hvm hw hB3 hz3 hk3 hS => ?_)
    have hM := hM.at hk3 hmg
    have hLo := (hk3 ao (oA.lt hLo) hmo).trans hLo
    have hDo := (hk3 ad (oA.lt hDo) hmd).trans hDo
    rw [ht] at hB3
    obtain rfl := hw
    refine lv_iload hx hb dL_law_1215 (lv_at hl 1 rfl) ?_
    refine lv_icmp_eq (tgt := 1222) hx hb dL_law_1217 rfl (fun _ => ?_) (fun h => absurd rfl h)
    refine lv_iload hx hb dL_law_1222 (lv_at hl 1 rfl) ?_
    refine lv_if_ne (tgt := 1239) hx hb dL_law_1224 rfl (fun h => absurd rfl h) (fun _ => ?_)
    have hLo := oA_eq hLo ((a_helps hZ huu (nhN k0) k0).trans hr7.symm)
    refine lv_aload_n hx hb dL_law_1227 rfl (lv_at hl 5 rfl) ?_
    refine lv_iconst (v := 0) hx hb dL_law_1228 (by decide) ?_
    refine w_lald hx hb hKL hLo dL_law_1229 ?_
    refine lv_iload hx hb dL_law_1230 (lv_at hl 0 rfl) ?_
    refine lv_i2l hx hb dL_law_1232 rfl ?_
    refine W.lcmp hx hb dL_law_1233 ?_
    rw [lg_same]
    refine lv_if_eq (tgt := 1239) hx hb dL_law_1234 rfl (fun _ => ?_) (fun h => absurd rfl h)
    refine lv_goto (tgt := 1485) hx hb dL_law_1239 rfl ?_
    refine W.widen (k := cells + 3) (n := slots + 18) (by omega) (by omega) (kk _ _ _ ⟨ln, bf, z, (y.1, y.2.1, y.2.2.1, y.2.2.2), ke, hs, ms, 0, cd, _, _, hM, hB3, RZ_le hZ (by omega), RHs_le hR (by omega), hcd, hLo, hDo⟩ hS (lv_sub hl [2, 3, 4, 5, 6, 7] rfl))
  · skip
    refine lv_istore (lv' := [(6, .int 1), (0, .ref b), (1, .ref (g 0)), (2, .ref (gm 0)), (3, .ref ao), (4, .ref ad), (5, .int (nI (4 * n)))]) hx hb dL_law_1191 hl (by decide) rfl (fun ls hl => ?_)
    refine lv_aload_n hx hb dL_law_1193 rfl (lv_at hl 3 rfl) ?_
    refine sc_load hx hb hX hbl hS hL hn (j := 1) (by decide) hw1 (lv_at hl 1 rfl) (lv_at hl 6 rfl) (by decide) dL_law_1194 dL_law_1195 dL_law_1197 dL_law_1198 dL_law_1199 ?_
    refine sc_load hx hb hX hbl hS hL hn (j := 2) (by decide) hw2 (lv_at hl 1 rfl) (lv_at hl 6 rfl) (by decide) dL_law_1200 dL_law_1201 dL_law_1203 dL_law_1204 dL_law_1205 ?_
    refine va_calli (va_runV (As := [_, _]) (rest := []) ⟨hx, hb, hml, hown, hts⟩ (c_X6_helps_no1 l E gm th ln bf y.1 y.2.1 y.2.2.1 y.2.2.2 ke ms w1 w2 (inB_f (n := 3) rfl (by decide) (by decide) hc)) (cwV 2 hts gL_law_X6_helps rfl rfl rfl (by decide +kernel) ⟨Nat.le_of_ble_eq_true rfl, Nat.le_of_ble_eq_true rfl⟩) ⟨wS.blind, hO.recv hK, fun U hU hW => wS.go hO hK C.hIm hU hW⟩ rfl rfl hl.1 rfl (lv_room (Nat.le_of_ble_eq_true rfl)) dL_law_1206 ⟨(by show cells + 2 + 0 ≤ 601024; omega), (by show slots + 12 + 0 ≤ 7293034; omega)⟩) hS (fun q _ h => hAn q h) (fun q h => hAn q h) (fun r_2 u2 t H_2 locs_2 ht hvm hw hB2 hz2 hk2 hS => ?_)
    have hM := hM.at hk2 hmg
    have hLo := (hk2 ao (oA.lt hLo) hmo).trans hLo
    have hDo := (hk2 ad (oA.lt hDo) hmd).trans hDo
    rw [ht] at hB2
    obtain rfl := hw
    refine lv_topi (fun r7 hr7 => ?_)
    refine lv_istore (lv' := [(7, .int r7), (6, .int 1), (0, .ref b), (1, .ref (g 0)), (2, .ref (gm 0)), (3, .ref ao), (4, .ref ad), (5, .int (nI (4 * n)))]) hx hb dL_law_1209 hl (by decide) rfl (fun ls hl => ?_)
    refine lv_aload_n hx hb dL_law_1211 rfl (lv_at hl 4 rfl) ?_
    refine va_calli (va_runV (As := []) (rest := []) ⟨hx, hb, hml, hown, hts⟩ (c_X6_thrown_ok l E gm 1 ln bf y.1 y.2.1 y.2.2.1 y.2.2.2 ke ms) (cwV 0 hts gL_law_X6_thrown rfl rfl rfl (by decide +kernel) ⟨Nat.le_of_ble_eq_true rfl, Nat.le_of_ble_eq_true rfl⟩) ⟨wS.blind, MOB.recv hK hB2, fun U hU hW => wS.go hB2 hK C.hIm hU hW⟩ rfl rfl hl.1 rfl (lv_room (Nat.le_of_ble_eq_true rfl)) dL_law_1212 ⟨(by show cells + 2 + 0 + 0 ≤ 601024; omega), (by show slots + 12 + 0 + 0 ≤ 7293034; omega)⟩) hS (fun q _ h => hAn q h) (fun q h => hAn q h) (fun r_3 u3 t H_3 locs_3 ht hvm hw hB3 hz3 hk3 hS => ?_)
    have hM := hM.at hk3 hmg
    have hLo := (hk3 ao (oA.lt hLo) hmo).trans hLo
    have hDo := (hk3 ad (oA.lt hDo) hmd).trans hDo
    rw [ht] at hB3
    obtain rfl := hw
    refine lv_iload hx hb dL_law_1215 (lv_at hl 1 rfl) ?_
    refine lv_icmp_eq (tgt := 1222) hx hb dL_law_1217 rfl (fun _ => ?_) (fun h => absurd rfl h)
    refine lv_iload hx hb dL_law_1222 (lv_at hl 1 rfl) ?_
    refine lv_if_ne (tgt := 1239) hx hb dL_law_1224 rfl (fun _ => ?_) (fun h => absurd h (by decide))
    refine lv_goto (tgt := 1485) hx hb dL_law_1239 rfl ?_
    refine W.widen (k := cells + 3) (n := slots + 18) (by omega) (by omega) (kk _ _ _ ⟨ln, bf, z, (y.1, y.2.1, y.2.2.1, y.2.2.2), ke, hs, ms, 1, cd, _, _, hM, hB3, RZ_le hZ (by omega), RHs_le hR (by omega), hcd, hLo, hDo⟩ hS (lv_sub hl [2, 3, 4, 5, 6, 7] rfl))
  · skip
    refine lv_istore (lv' := [(6, .int 2), (0, .ref b), (1, .ref (g 0)), (2, .ref (gm 0)), (3, .ref ao), (4, .ref ad), (5, .int (nI (4 * n)))]) hx hb dL_law_1191 hl (by decide) rfl (fun ls hl => ?_)
    refine lv_aload_n hx hb dL_law_1193 rfl (lv_at hl 3 rfl) ?_
    refine sc_load hx hb hX hbl hS hL hn (j := 1) (by decide) hw1 (lv_at hl 1 rfl) (lv_at hl 6 rfl) (by decide) dL_law_1194 dL_law_1195 dL_law_1197 dL_law_1198 dL_law_1199 ?_
    refine sc_load hx hb hX hbl hS hL hn (j := 2) (by decide) hw2 (lv_at hl 1 rfl) (lv_at hl 6 rfl) (by decide) dL_law_1200 dL_law_1201 dL_law_1203 dL_law_1204 dL_law_1205 ?_
    refine va_calli (va_runV (As := [_, _]) (rest := []) ⟨hx, hb, hml, hown, hts⟩ (c_X6_helps_no2 l E gm th ln bf y.1 y.2.1 y.2.2.1 y.2.2.2 ke ms w1 w2 (inB_v (n := 3) rfl (by decide) (by decide) hc.1) (inB_f (n := 10000) rfl (by decide) (by decide) hc.2)) (cwV 2 hts gL_law_X6_helps rfl rfl rfl (by decide +kernel) ⟨Nat.le_of_ble_eq_true rfl, Nat.le_of_ble_eq_true rfl⟩) ⟨wS.blind, hO.recv hK, fun U hU hW => wS.go hO hK C.hIm hU hW⟩ rfl rfl hl.1 rfl (lv_room (Nat.le_of_ble_eq_true rfl)) dL_law_1206 ⟨(by show cells + 2 + 0 ≤ 601024; omega), (by show slots + 12 + 0 ≤ 7293034; omega)⟩) hS (fun q _ h => hAn q h) (fun q h => hAn q h) (fun r_2 u2 t H_2 locs_2 ht hvm hw hB2 hz2 hk2 hS => ?_)
    have hM := hM.at hk2 hmg
    have hLo := (hk2 ao (oA.lt hLo) hmo).trans hLo
    have hDo := (hk2 ad (oA.lt hDo) hmd).trans hDo
    rw [ht] at hB2
    obtain rfl := hw
    refine lv_topi (fun r7 hr7 => ?_)
    refine lv_istore (lv' := [(7, .int r7), (6, .int 2), (0, .ref b), (1, .ref (g 0)), (2, .ref (gm 0)), (3, .ref ao), (4, .ref ad), (5, .int (nI (4 * n)))]) hx hb dL_law_1209 hl (by decide) rfl (fun ls hl => ?_)
    refine lv_aload_n hx hb dL_law_1211 rfl (lv_at hl 4 rfl) ?_
    refine va_calli (va_runV (As := []) (rest := []) ⟨hx, hb, hml, hown, hts⟩ (c_X6_thrown_ok l E gm 2 ln bf y.1 y.2.1 y.2.2.1 y.2.2.2 ke ms) (cwV 0 hts gL_law_X6_thrown rfl rfl rfl (by decide +kernel) ⟨Nat.le_of_ble_eq_true rfl, Nat.le_of_ble_eq_true rfl⟩) ⟨wS.blind, MOB.recv hK hB2, fun U hU hW => wS.go hB2 hK C.hIm hU hW⟩ rfl rfl hl.1 rfl (lv_room (Nat.le_of_ble_eq_true rfl)) dL_law_1212 ⟨(by show cells + 2 + 0 + 0 ≤ 601024; omega), (by show slots + 12 + 0 + 0 ≤ 7293034; omega)⟩) hS (fun q _ h => hAn q h) (fun q h => hAn q h) (fun r_3 u3 t H_3 locs_3 ht hvm hw hB3 hz3 hk3 hS => ?_)
    have hM := hM.at hk3 hmg
    have hLo := (hk3 ao (oA.lt hLo) hmo).trans hLo
    have hDo := (hk3 ad (oA.lt hDo) hmd).trans hDo
    rw [ht] at hB3
    obtain rfl := hw
    refine lv_iload hx hb dL_law_1215 (lv_at hl 1 rfl) ?_
    refine lv_icmp_eq (tgt := 1222) hx hb dL_law_1217 rfl (fun _ => ?_) (fun h => absurd rfl h)
    refine lv_iload hx hb dL_law_1222 (lv_at hl 1 rfl) ?_
    refine lv_if_ne (tgt := 1239) hx hb dL_law_1224 rfl (fun _ => ?_) (fun h => absurd h (by decide))
    refine lv_goto (tgt := 1485) hx hb dL_law_1239 rfl ?_
    refine W.widen (k := cells + 3) (n := slots + 18) (by omega) (by omega) (kk _ _ _ ⟨ln, bf, z, (y.1, y.2.1, y.2.2.1, y.2.2.2), ke, hs, ms, 2, cd, _, _, hM, hB3, RZ_le hZ (by omega), RHs_le hR (by omega), hcd, hLo, hDo⟩ hS (lv_sub hl [2, 3, 4, 5, 6, 7] rfl))
set_option maxHeartbeats 4000000 in
set_option maxRecDepth 100000 in
theorem law_needs {p : Program} {l : Launch} {e : Env} {s : State} {m : MethodId} {below : List Frame} {meth : Method} {c : Code} {b L : Nat} {xs : Nat → Int32} {E : wE} {cL cD : ClassId} {g gm : Nat → Nat} {ao ad : Nat} (C : LC p l s m meth c b L xs E cL cD g gm ao ad) {n B : Nat} (hn : 4 * n + 4 ≤ L) (hB : B ≤ 60000) {H : Heap} {locs : List Loc} {cells slots : Nat} {ls : Array Slot} {Q : State → Prop} (hcl9 : cells + 3 ≤ 601024) (hsl9 : slots + 18 ≤ 7293034) (hI : LI E cL cD g gm ao ad B H) (hS : va_S (lwA s) s.heap H locs)
    (hl : lv_has ls 9 [(0, .ref b), (1, .ref (g 0)), (2, .ref (gm 0)), (3, .ref ao), (4, .ref ad), (5, .int (nI (4 * n)))])
    (kk : ∀ (H2 : Heap) (locs2 : List Loc) (ls2 : Array Slot), LI E cL cD g gm ao ad (B + 100) H2 → va_S (lwA s) s.heap H2 locs2 → lv_has ls2 9 [(0, .ref b), (1, .ref (g 0)), (2, .ref (gm 0)), (3, .ref ao), (4, .ref ad), (5, .int (nI (4 * n)))] → W p l e room_1 s m #[Value.ref b] below meth c H2 locs2 (cells + 3) (slots + 18) Q (F0 m 1485 ls2 [])) : W p l e room_1 s m #[Value.ref b] below meth c H locs cells slots Q (F0 m 1242 ls []) := by
  have hx := C.hx
  have hb := C.hb
  have hml := C.hml
  have hown := C.hown
  have hts := C.hts
  have hX := C.hX
  have hbl := C.hbl
  have hst := C.hst
  have hL := C.hL
  have hK := C.hK
  have hKL := C.hKL
  have hxe := C.hxe
  have hxc := C.hxc
  obtain ⟨ln, bf, z, y, ke, hs, ms, th, cd, x0, d0, hM, hO, hZ, hR, hcd, hLo, hDo⟩ := hI
  have hzr := hM.rng
  have hAn : ∀ q, wF 6 gm q → lwA s q := by rintro q ⟨k, hk, rfl⟩; exact C.hAm k hk
  have hmg : ∀ k, k < 94 → ¬ wF 6 gm (g k) := by rintro k hk ⟨j, hj, e9⟩; exact C.ngm k j hk hj e9
  have hmo : ¬ wF 6 gm ao := by rintro ⟨j, hj, e9⟩; exact C.nmo j hj e9.symm
  have hmd : ¬ wF 6 gm ad := by rintro ⟨j, hj, e9⟩; exact C.nmd j hj e9.symm
  have hAw : ∀ q, wA g ao q → lwA s q := by
    rintro q (⟨k, hk, rfl⟩ | rfl)
    · exact C.hAg k hk
    · exact C.hAo
  have hwm : ∀ k, k < 6 → ¬ wA g ao (gm k) := by
    rintro k hk (⟨j, hj, e9⟩ | e9)
    · exact C.ngm j k hj hk e9.symm
    · exact C.nmo k hk e9
  have hwo : ¬ wA g ao ad := by
    rintro (⟨j, hj, e9⟩ | e9)
    · exact C.ngd j hj e9.symm
    · exact C.nod e9.symm
  obtain ⟨w1, hw1⟩ : ∃ w, xs (4 * n + 1) = w := ⟨_, rfl⟩
  obtain ⟨w2, hw2⟩ : ∃ w, xs (4 * n + 2) = w := ⟨_, rfl⟩
  obtain ⟨w3, hw3⟩ : ∃ w, xs (4 * n + 3) = w := ⟨_, rfl⟩
  refine lv_aload_n hx hb dL_law_1242 rfl (lv_at hl 1 rfl) ?_
  refine sc_load hx hb hX hbl hS hL hn (j := 1) (by decide) hw1 (lv_at hl 0 rfl) (lv_at hl 5 rfl) (by decide) dL_law_1243 dL_law_1244 dL_law_1246 dL_law_1247 dL_law_1248 ?_
  refine sc_load hx hb hX hbl hS hL hn (j := 2) (by decide) hw2 (lv_at hl 0 rfl) (lv_at hl 5 rfl) (by decide) dL_law_1249 dL_law_1250 dL_law_1252 dL_law_1253 dL_law_1254 ?_
  refine sc_load hx hb hX hbl hS hL hn (j := 3) (by decide) hw3 (lv_at hl 0 rfl) (lv_at hl 5 rfl) (by decide) dL_law_1255 dL_law_1256 dL_law_1258 dL_law_1259 dL_law_1260 ?_
  refine lv_bool hx hb dL_law_1261 dL_law_1264 dL_law_1265 dL_law_1268 ?_
  refine lv_aload_n hx hb dL_law_1269 rfl (lv_at hl 3 rfl) ?_
  refine va_calli (vx_runSW (As := [.ref (g 0), .int w1, .int w2, .int (bI (decide (¬ w3 = 0))), .ref ao]) (rest := []) ⟨hx, hb, hml, hown, hts⟩ (c_L_needs l hst cL cD ao E g ln bf z ke hs w1 w2 (decide (¬ w3 = 0))) (vx_cwSW 5 hts gL_law_L_needs rfl rfl rfl (by decide +kernel) ⟨Nat.le_of_ble_eq_true rfl, Nat.le_of_ble_eq_true rfl⟩) ⟨wL.blind, fun U hU hW => wL.go hM ⟨_, hLo⟩ hK hKL C.hI C.ngo hxe hxc hS hAw hU hW⟩ rfl rfl hl.1 rfl (lv_room (Nat.le_of_ble_eq_true rfl)) dL_law_1270 ⟨Nat.le_trans (Nat.add_le_add_left (by decide) cells) hcl9, Nat.le_trans (Nat.add_le_add_left (by decide) slots) hsl9⟩) hS (fun q _ h => hAw q h) (fun q h => hAw q h) (fun r_1 u1 t H_1 locs_1 ht hvm hw hB1 hz1 hk1 hS => ?_)
  obtain rfl : r_1 = u1 := hw
  rw [ht] at hB1
  have hO := hO.at hk1 hwm
  have hDo := (hk1 ad hDo.lt hwo).trans hDo
  clear hLo hM
  rcases hB1 with ⟨rfl, hc, hLo, hM⟩ | ⟨rfl, hc, ⟨x1, hLo⟩, hM⟩ | ⟨rfl, hc, ⟨x1, hLo⟩, hM⟩
  · skip
    obtain ⟨uu, huu, rfl⟩ := i_in hc.1 (by decide)
    obtain ⟨k0, hk0, rfl⟩ := i_in hc.2 (by decide)
    have hcls : (nI uu).toNatClampNeg = uu ∧ (nI k0).toNatClampNeg = k0 := ⟨nI_clamp (by omega), nI_clamp (by omega)⟩
    simp only [hcls] at hM hLo
    refine lv_istore (lv' := [(6, .int 0), (0, .ref b), (1, .ref (g 0)), (2, .ref (gm 0)), (3, .ref ao), (4, .ref ad), (5, .int (nI (4 * n)))]) hx hb dL_law_1273 hl (by decide) rfl (fun ls hl => ?_)
    refine lv_aload_n hx hb dL_law_1275 rfl (lv_at hl 3 rfl) ?_
    refine sc_load hx hb hX hbl hS hL hn (j := 1) (by decide) hw1 (lv_at hl 1 rfl) (lv_at hl 6 rfl) (by decide) dL_law_1276 dL_law_1277 dL_law_1279 dL_law_1280 dL_law_1281 ?_
    refine sc_load hx hb hX hbl hS hL hn (j := 2) (by decide) hw2 (lv_at hl 1 rfl) (lv_at hl 6 rfl) (by decide) dL_law_1282 dL_law_1283 dL_law_1285 dL_law_1286 dL_law_1287 ?_
    refine sc_load hx hb hX hbl hS hL hn (j := 3) (by decide) hw3 (lv_at hl 1 rfl) (lv_at hl 6 rfl) (by decide) dL_law_1288 dL_law_1289 dL_law_1291 dL_law_1292 dL_law_1293 ?_
    refine lv_bool hx hb dL_law_1294 dL_law_1297 dL_law_1298 dL_law_1301 ?_
    refine va_calli (va_runV (As := [_, _, _]) (rest := []) ⟨hx, hb, hml, hown, hts⟩ (c_X6_needs_ok l E gm th ln bf y.1 y.2.1 y.2.2.1 y.2.2.2 ke ms uu huu k0 hk0 (decide (¬ w3 = 0))) (cwV 3 hts gL_law_X6_needs rfl rfl rfl (by decide +kernel) ⟨Nat.le_of_ble_eq_true rfl, Nat.le_of_ble_eq_true rfl⟩) ⟨wS.blind, hO.recv hK, fun U hU hW => wS.go hO hK C.hIm hU hW⟩ rfl rfl hl.1 rfl (lv_room (Nat.le_of_ble_eq_true rfl)) dL_law_1302 ⟨(by show cells + 2 + 0 ≤ 601024; omega), (by show slots + 12 + 0 ≤ 7293034; omega)⟩) hS (fun q _ h => hAn q h) (fun q h => hAn q h) (fun r_2 u2 t H_2 locs_2 ht hvm hw hB2 hz2 hk2 hS => ?_)
    have hM := hM.at hk2 hmg
    have hLo := (hk2 ao (oA.lt hLo) hmo).trans hLo
    have hDo := (hk2 ad (oA.lt hDo) hmd).trans hDo
    rw [ht] at hB2
    obtain rfl := hw
    refine lv_topi (fun r7 hr7 => ?_)
    refine lv_istore (lv' := [(7, .int r7), (6, .int 0), (0, .ref b), (1, .ref (g 0)), (2, .ref (gm 0)), (3, .ref ao), (4, .ref ad), (5, .int (nI (4 * n)))]) hx hb dL_law_1305 hl (by decide) rfl (fun ls hl => ?_)
    refine lv_aload_n hx hb dL_law_1307 rfl (lv_at hl 4 rfl) ?_
    refine va_calli (va_runV (As := []) (rest := []) ⟨hx, hb, hml, hown, hts⟩ (c_X6_thrown_ok l E gm 0 ln bf y.1 y.2.1 y.2.2.1 y.2.2.2 ke ms) (cwV 0 hts gL_law_X6_thrown rfl rfl rfl (by decide +kernel) ⟨Nat.le_of_ble_eq_true rfl, Nat.le_of_ble_eq_true rfl⟩) ⟨wS.blind, MOB.recv hK hB2, fun U hU hW => wS.go hB2 hK C.hIm hU hW⟩ rfl rfl hl.1 rfl (lv_room (Nat.le_of_ble_eq_true rfl)) dL_law_1308 ⟨(by show cells + 2 + 0 + 0 ≤ 601024; omega), (by show slots + 12 + 0 + 0 ≤ 7293034; omega)⟩) hS (fun q _ h => hAn q h) (fun q h => hAn q h) (fun r_3 u3 t H_3 locs_3 ht hvm hw hB3 hz3 hk3 hS => ?_)
    have hM := hM.at hk3 hmg
    have hLo := (hk3 ao (oA.lt hLo) hmo).trans hLo
    have hDo := (hk3 ad (oA.lt hDo) hmd).trans hDo
    rw [ht] at hB3
    obtain rfl := hw
    refine lv_iload hx hb dL_law_1311 (lv_at hl 1 rfl) ?_
    refine lv_icmp_eq (tgt := 1318) hx hb dL_law_1313 rfl (fun _ => ?_) (fun h => absurd rfl h)
    refine lv_iload hx hb dL_law_1318 (lv_at hl 1 rfl) ?_
    refine lv_if_ne (tgt := 1335) hx hb dL_law_1320 rfl (fun h => absurd rfl h) (fun _ => ?_)
    have hLo := oA_eq hLo ((a_needs hZ huu k0 (decide (¬ w3 = 0)) 100 0).trans hr7.symm)
    refine lv_aload_n hx hb dL_law_1323 rfl (lv_at hl 5 rfl) ?_
    refine lv_iconst (v := 0) hx hb dL_law_1324 (by decide) ?_
    refine w_lald hx hb hKL hLo dL_law_1325 ?_
    refine lv_iload hx hb dL_law_1326 (lv_at hl 0 rfl) ?_
    refine lv_i2l hx hb dL_law_1328 rfl ?_
    refine W.lcmp hx hb dL_law_1329 ?_
    rw [lg_same]
    refine lv_if_eq (tgt := 1335) hx hb dL_law_1330 rfl (fun _ => ?_) (fun h => absurd rfl h)
    refine lv_goto (tgt := 1485) hx hb dL_law_1335 rfl ?_
    refine W.widen (k := cells + 3) (n := slots + 18) (by omega) (by omega) (kk _ _ _ ⟨ln, bf, z, (y.1, y.2.1, y.2.2.1, y.2.2.2), ke, hs, ms, 0, cd, _, _, hM, hB3, RZ_le hZ (by omega), RHs_le hR (by omega), hcd, hLo, hDo⟩ hS (lv_sub hl [2, 3, 4, 5, 6, 7] rfl))
  · skip
    refine lv_istore (lv' := [(6, .int 1), (0, .ref b), (1, .ref (g 0)), (2, .ref (gm 0)), (3, .ref ao), (4, .ref ad), (5, .int (nI (4 * n)))]) hx hb dL_law_1273 hl (by decide) rfl (fun ls hl => ?_)
    refine lv_aload_n hx hb dL_law_1275 rfl (lv_at hl 3 rfl) ?_
    refine sc_load hx hb hX hbl hS hL hn (j := 1) (by decide) hw1 (lv_at hl 1 rfl) (lv_at hl 6 rfl) (by decide) dL_law_1276 dL_law_1277 dL_law_1279 dL_law_1280 dL_law_1281 ?_
    refine sc_load hx hb hX hbl hS hL hn (j := 2) (by decide) hw2 (lv_at hl 1 rfl) (lv_at hl 6 rfl) (by decide) dL_law_1282 dL_law_1283 dL_law_1285 dL_law_1286 dL_law_1287 ?_
    refine sc_load hx hb hX hbl hS hL hn (j := 3) (by decide) hw3 (lv_at hl 1 rfl) (lv_at hl 6 rfl) (by decide) dL_law_1288 dL_law_1289 dL_law_1291 dL_law_1292 dL_law_1293 ?_
    refine lv_bool hx hb dL_law_1294 dL_law_1297 dL_law_1298 dL_law_1301 ?_
    refine va_calli (va_runV (As := [_, _, _]) (rest := []) ⟨hx, hb, hml, hown, hts⟩ (c_X6_needs_no1 l E gm th ln bf y.1 y.2.1 y.2.2.1 y.2.2.2 ke ms w1 w2 (decide (¬ w3 = 0)) (inB_f (n := 3) rfl (by decide) (by decide) hc)) (cwV 3 hts gL_law_X6_needs rfl rfl rfl (by decide +kernel) ⟨Nat.le_of_ble_eq_true rfl, Nat.le_of_ble_eq_true rfl⟩) ⟨wS.blind, hO.recv hK, fun U hU hW => wS.go hO hK C.hIm hU hW⟩ rfl rfl hl.1 rfl (lv_room (Nat.le_of_ble_eq_true rfl)) dL_law_1302 ⟨(by show cells + 2 + 0 ≤ 601024; omega), (by show slots + 12 + 0 ≤ 7293034; omega)⟩) hS (fun q _ h => hAn q h) (fun q h => hAn q h) (fun r_2 u2 t H_2 locs_2 ht hvm hw hB2 hz2 hk2 hS => ?_)
    have hM := hM.at hk2 hmg
    have hLo := (hk2 ao (oA.lt hLo) hmo).trans hLo
    have hDo := (hk2 ad (oA.lt hDo) hmd).trans hDo
    rw [ht] at hB2
    obtain rfl := hw
    refine lv_topi (fun r7 hr7 => ?_)
    refine lv_istore (lv' := [(7, .int r7), (6, .int 1), (0, .ref b), (1, .ref (g 0)), (2, .ref (gm 0)), (3, .ref ao), (4, .ref ad), (5, .int (nI (4 * n)))]) hx hb dL_law_1305 hl (by decide) rfl (fun ls hl => ?_)
    refine lv_aload_n hx hb dL_law_1307 rfl (lv_at hl 4 rfl) ?_
    refine va_calli (va_runV (As := []) (rest := []) ⟨hx, hb, hml, hown, hts⟩ (c_X6_thrown_ok l E gm 1 ln bf y.1 y.2.1 y.2.2.1 y.2.2.2 ke ms) (cwV 0 hts gL_law_X6_thrown rfl rfl rfl (by decide +kernel) ⟨Nat.le_of_ble_eq_true rfl, Nat.le_of_ble_eq_true rfl⟩) ⟨wS.blind, MOB.recv hK hB2, fun U hU hW => wS.go hB2 hK C.hIm hU hW⟩ rfl rfl hl.1 rfl (lv_room (Nat.le_of_ble_eq_true rfl)) dL_law_1308 ⟨(by show cells + 2 + 0 + 0 ≤ 601024; omega), (by show slots + 12 + 0 + 0 ≤ 7293034; omega)⟩) hS (fun q _ h => hAn q h) (fun q h => hAn q h) (fun r_3 u3 t H_3 locs_3 ht hvm hw hB3 hz3 hk3 hS => ?_)
    have hM := hM.at hk3 hmg
    have hLo := (hk3 ao (oA.lt hLo) hmo).trans hLo
    have hDo := (hk3 ad (oA.lt hDo) hmd).trans hDo
    rw [ht] at hB3
    obtain rfl := hw
    refine lv_iload hx hb dL_law_1311 (lv_at hl 1 rfl) ?_
    refine lv_icmp_eq (tgt := 1318) hx hb dL_law_1313 rfl (fun _ => ?_) (fun h => absurd rfl h)
    refine lv_iload hx hb dL_law_1318 (lv_at hl 1 rfl) ?_
    refine lv_if_ne (tgt := 1335) hx hb dL_law_1320 rfl (fun _ => ?_) (fun h => absurd h (by decide))
    refine lv_goto (tgt := 1485) hx hb dL_law_1335 rfl ?_
    refine W.widen (k := cells + 3) (n := slots + 18) (by omega) (by omega) (kk _ _ _ ⟨ln, bf, z, (y.1, y.2.1, y.2.2.1, y.2.2.2), ke, hs, ms, 1, cd, _, _, hM, hB3, RZ_le hZ (by omega), RHs_le hR (by omega), hcd, hLo, hDo⟩ hS (lv_sub hl [2, 3, 4, 5, 6, 7] rfl))
  · skip
    refine lv_istore (lv' := [(6, .int 2), (0, .ref b), (1, .ref (g 0)), (2, .ref (gm 0)), (3, .ref ao), (4, .ref ad), (5, .int (nI (4 * n)))]) hx hb dL_law_1273 hl (by decide) rfl (fun ls hl => ?_)
    refine lv_aload_n hx hb dL_law_1275 rfl (lv_at hl 3 rfl) ?_
    refine sc_load hx hb hX hbl hS hL hn (j := 1) (by decide) hw1 (lv_at hl 1 rfl) (lv_at hl 6 rfl) (by decide) dL_law_1276 dL_law_1277 dL_law_1279 dL_law_1280 dL_law_1281 ?_
    refine sc_load hx hb hX hbl hS hL hn (j := 2) (by decide) hw2 (lv_at hl 1 rfl) (lv_at hl 6 rfl) (by decide) dL_law_1282 dL_law_1283 dL_law_1285 dL_law_1286 dL_law_1287 ?_
    refine sc_load hx hb hX hbl hS hL hn (j := 3) (by decide) hw3 (lv_at hl 1 rfl) (lv_at hl 6 rfl) (by decide) dL_law_1288 dL_law_1289 dL_law_1291 dL_law_1292 dL_law_1293 ?_
    refine lv_bool hx hb dL_law_1294 dL_law_1297 dL_law_1298 dL_law_1301 ?_
    refine va_calli (va_runV (As := [_, _, _]) (rest := []) ⟨hx, hb, hml, hown, hts⟩ (c_X6_needs_no2 l E gm th ln bf y.1 y.2.1 y.2.2.1 y.2.2.2 ke ms w1 w2 (decide (¬ w3 = 0)) (inB_v (n := 3) rfl (by decide) (by decide) hc.1) (inB_f (n := 9900) rfl (by decide) (by decide) hc.2)) (cwV 3 hts gL_law_X6_needs rfl rfl rfl (by decide +kernel) ⟨Nat.le_of_ble_eq_true rfl, Nat.le_of_ble_eq_true rfl⟩) ⟨wS.blind, hO.recv hK, fun U hU hW => wS.go hO hK C.hIm hU hW⟩ rfl rfl hl.1 rfl (lv_room (Nat.le_of_ble_eq_true rfl)) dL_law_1302 ⟨(by show cells + 2 + 0 ≤ 601024; omega), (by show slots + 12 + 0 ≤ 7293034; omega)⟩) hS (fun q _ h => hAn q h) (fun q h => hAn q h) (fun r_2 u2 t H_2 locs_2 ht hvm hw hB2 hz2 hk2 hS => ?_)
    have hM := hM.at hk2 hmg
    have hLo := (hk2 ao (oA.lt hLo) hmo).trans hLo
    have hDo := (hk2 ad (oA.lt hDo) hmd).trans hDo
    rw [ht] at hB2
    obtain rfl := hw
    refine lv_topi (fun r7 hr7 => ?_)
    refine lv_istore (lv' := [(7, .int r7), (6, .int 2), (0, .ref b), (1, .ref (g 0)), (2, .ref (gm 0)), (3, .ref ao), (4, .ref ad), (5, .int (nI (4 * n)))]) hx hb dL_law_1305 hl (by decide) rfl (fun ls hl => ?_)
    refine lv_aload_n hx hb dL_law_1307 rfl (lv_at hl 4 rfl) ?_
    refine va_calli (va_runV (As := []) (rest := []) ⟨hx, hb, hml, hown, hts⟩ (c_X6_thrown_ok l E gm 2 ln bf y.1 y.2.1 y.2.2.1 y.2.2.2 ke ms) (cwV 0 hts gL_law_X6_thrown rfl rfl rfl (by decide +kernel) ⟨Nat.le_of_ble_eq_true rfl, Nat.le_of_ble_eq_true rfl⟩) ⟨wS.blind, MOB.recv hK hB2, fun U hU hW => wS.go hB2 hK C.hIm hU hW⟩ rfl rfl hl.1 rfl (lv_room (Nat.le_of_ble_eq_true rfl)) dL_law_1308 ⟨(by show cells + 2 + 0 + 0 ≤ 601024; omega), (by show slots + 12 + 0 + 0 ≤ 7293034; omega)⟩) hS (fun q _ h => hAn q h) (fun q h => hAn q h) (fun r_3 u3 t H_3 locs_3 ht hvm hw hB3 hz3 hk3 hS => ?_)
    have hM := hM.at hk3 hmg
    have hLo := (hk3 ao (oA.lt hLo) hmo).trans hLo
    have hDo := (hk3 ad (oA.lt hDo) hmd).trans hDo
    rw [ht] at hB3
    obtain rfl := hw
    refine lv_iload hx hb dL_law_1311 (lv_at hl 1 rfl) ?_
    refine lv_icmp_eq (tgt := 1318) hx hb dL_law_1313 rfl (fun _ => ?_) (fun h => absurd rfl h)
    refine lv_iload hx hb dL_law_1318 (lv_at hl 1 rfl) ?_
    refine lv_if_ne (tgt := 1335) hx hb dL_law_1320 rfl (fun _ => ?_) (fun h => absurd h (by decide))
    refine lv_goto (tgt := 1485) hx hb dL_law_1335 rfl ?_
    refine W.widen (k := cells + 3) (n := slots + 18) (by omega) (by omega) (kk _ _ _ ⟨ln, bf, z, (y.1, y.2.1, y.2.2.1, y.2.2.2), ke, hs, ms, 2, cd, _, _, hM, hB3, RZ_le hZ (by omega), RHs_le hR (by omega), hcd, hLo, hDo⟩ hS (lv_sub hl [2, 3, 4, 5, 6, 7] rfl))
set_option maxHeartbeats 4000000 in
set_option maxRecDepth 100000 in
theorem law_ifEliminated {p : Program} {l : Launch} {e : Env} {s : State} {m : MethodId} {below : List Frame} {meth : Method} {c : Code} {b L : Nat} {xs : Nat → Int32} {E : wE} {cL cD : ClassId} {g gm : Nat → Nat} {ao ad : Nat} (C : LC p l s m meth c b L xs E cL cD g gm ao ad) {n B : Nat} (hn : 4 * n + 4 ≤ L) (hB : B ≤ 60000) {H : Heap} {locs : List Loc} {cells slots : Nat} {ls : Array Slot} {Q : State → Prop} (hcl9 : cells + 3 ≤ 601024) (hsl9 : slots + 18 ≤ 7293034) (hI : LI E cL cD g gm ao ad B H) (hS : va_S (lwA s) s.heap H locs)
    (hl : lv_has ls 9 [(0, .ref b), (1, .ref (g 0)), (2, .ref (gm 0)), (3, .ref ao), (4, .ref ad), (5, .int (nI (4 * n)))])
    (kk : ∀ (H2 : Heap) (locs2 : List Loc) (ls2 : Array Slot), LI E cL cD g gm ao ad (B + 100) H2 → va_S (lwA s) s.heap H2 locs2 → lv_has ls2 9 [(0, .ref b), (1, .ref (g 0)), (2, .ref (gm 0)), (3, .ref ao), (4, .ref ad), (5, .int (nI (4 * n)))] → W p l e room_1 s m #[Value.ref b] below meth c H2 locs2 (cells + 3) (slots + 18) Q (F0 m 1485 ls2 [])) : W p l e room_1 s m #[Value.ref b] below meth c H locs cells slots Q (F0 m 1338 ls []) := by
  have hx := C.hx
  have hb := C.hb
  have hml := C.hml
  have hown := C.hown
  have hts := C.hts
  have hX := C.hX
  have hbl := C.hbl
  have hst := C.hst
  have hL := C.hL
  have hK := C.hK
  have hKL := C.hKL
  have hxe := C.hxe
  have hxc := C.hxc
  obtain ⟨ln, bf, z, y, ke, hs, ms, th, cd, x0, d0, hM, hO, hZ, hR, hcd, hLo, hDo⟩ := hI
  have hzr := hM.rng
  have hAn : ∀ q, wF 6 gm q → lwA s q := by rintro q ⟨k, hk, rfl⟩; exact C.hAm k hk
  have hmg : ∀ k, k < 94 → ¬ wF 6 gm (g k) := by rintro k hk ⟨j, hj, e9⟩; exact C.ngm k j hk hj e9
  have hmo : ¬ wF 6 gm ao := by rintro ⟨j, hj, e9⟩; exact C.nmo j hj e9.symm
  have hmd : ¬ wF 6 gm ad := by rintro ⟨j, hj, e9⟩; exact C.nmd j hj e9.symm
  have hAw : ∀ q, wA g ao q → lwA s q := by
    rintro q (⟨k, hk, rfl⟩ | rfl)
    · exact C.hAg k hk
    · exact C.hAo
  have hwm : ∀ k, k < 6 → ¬ wA g ao (gm k) := by
    rintro k hk (⟨j, hj, e9⟩ | e9)
    · exact C.ngm j k hj hk e9.symm
    · exact C.nmo k hk e9
  have hwo : ¬ wA g ao ad := by
    rintro (⟨j, hj, e9⟩ | e9)
    · exact C.ngd j hj e9.symm
    · exact C.nod e9.symm
  obtain ⟨w1, hw1⟩ : ∃ w, xs (4 * n + 1) = w := ⟨_, rfl⟩
  refine lv_aload_n hx hb dL_law_1338 rfl (lv_at hl 1 rfl) ?_
  refine sc_load hx hb hX hbl hS hL hn (j := 1) (by decide) hw1 (lv_at hl 0 rfl) (lv_at hl 5 rfl) (by decide) dL_law_1339 dL_law_1340 dL_law_1342 dL_law_1343 dL_law_1344 ?_
  refine lv_aload_n hx hb dL_law_1345 rfl (lv_at hl 3 rfl) ?_
  refine va_calli (vx_runSW (As := [.ref (g 0), .int w1, .ref ao]) (rest := []) ⟨hx, hb, hml, hown, hts⟩ (c_L_ifEliminated l hst cL cD ao E g ln bf z ke hs w1) (vx_cwSW 3 hts gL_law_L_ifEliminated rfl rfl rfl (by decide +kernel) ⟨Nat.le_of_ble_eq_true rfl, Nat.le_of_ble_eq_true rfl⟩) ⟨wL.blind, fun U hU hW => wL.go hM ⟨_, hLo⟩ hK hKL C.hI C.ngo hxe hxc hS hAw hU hW⟩ rfl rfl hl.1 rfl (lv_room (Nat.le_of_ble_eq_true rfl)) dL_law_1346 ⟨Nat.le_trans (Nat.add_le_add_left (by decide) cells) hcl9, Nat.le_trans (Nat.add_le_add_left (by decide) slots) hsl9⟩) hS (fun q _ h => hAw q h) (fun q h => hAw q h) (fun r_1 u1 t H_1 locs_1 ht hvm hw hB1 hz1 hk1 hS => ?_)
  obtain rfl : r_1 = u1 := hw
  rw [ht] at hB1
  have hO := hO.at hk1 hwm
  have hDo := (hk1 ad hDo.lt hwo).trans hDo
  clear hLo hM
  rcases hB1 with ⟨rfl, hc, hLo, hM⟩ | ⟨rfl, hc, ⟨x1, hLo⟩, hM⟩
  · skip
    obtain ⟨uu, huu, rfl⟩ := i_in hc (by decide)
    have hcls : (nI uu).toNatClampNeg = uu := nI_clamp (by omega)
    simp only [hcls] at hM hLo
    refine lv_istore (lv' := [(6, .int 0), (0, .ref b), (1, .ref (g 0)), (2, .ref (gm 0)), (3, .ref ao), (4, .ref ad), (5, .int (nI (4 * n)))]) hx hb dL_law_1349 hl (by decide) rfl (fun ls hl => ?_)
    refine lv_aload_n hx hb dL_law_1351 rfl (lv_at hl 3 rfl) ?_
    refine sc_load hx hb hX hbl hS hL hn (j := 1) (by decide) hw1 (lv_at hl 1 rfl) (lv_at hl 6 rfl) (by decide) dL_law_1352 dL_law_1353 dL_law_1355 dL_law_1356 dL_law_1357 ?_
    refine va_calli (va_runV (As := [_]) (rest := []) ⟨hx, hb, hml, hown, hts⟩ (c_X6_ifEliminated_ok l E gm th ln bf y.1 y.2.1 y.2.2.1 y.2.2.2 ke ms uu huu) (cwV 1 hts gL_law_X6_ifEliminated rfl rfl rfl (by decide +kernel) ⟨Nat.le_of_ble_eq_true rfl, Nat.le_of_ble_eq_true rfl⟩) ⟨wS.blind, hO.recv hK, fun U hU hW => wS.go hO hK C.hIm hU hW⟩ rfl rfl hl.1 rfl (lv_room (Nat.le_of_ble_eq_true rfl)) dL_law_1358 ⟨(by show cells + 1 + 0 ≤ 601024; omega), (by show slots + 6 + 0 ≤ 7293034; omega)⟩) hS (fun q _ h => hAn q h) (fun q h => hAn q h) (fun r_2 u2 t H_2 locs_2 ht hvm hw hB2 hz2 hk2 hS => ?_)
    have hM := hM.at hk2 hmg
    have hLo := (hk2 ao (oA.lt hLo) hmo).trans hLo
    have hDo := (hk2 ad (oA.lt hDo) hmd).trans hDo
    rw [ht] at hB2
    obtain rfl := hw
    refine lv_topi (fun r7 hr7 => ?_)
    refine lv_istore (lv' := [(7, .int r7), (6, .int 0), (0, .ref b), (1, .ref (g 0)), (2, .ref (gm 0)), (3, .ref ao), (4, .ref ad), (5, .int (nI (4 * n)))]) hx hb dL_law_1361 hl (by decide) rfl (fun ls hl => ?_)
    refine lv_aload_n hx hb dL_law_1363 rfl (lv_at hl 4 rfl) ?_
    refine va_calli (va_runV (As := []) (rest := []) ⟨hx, hb, hml, hown, hts⟩ (c_X6_thrown_ok l E gm 0 ln bf y.1 y.2.1 y.2.2.1 y.2.2.2 ke ms) (cwV 0 hts gL_law_X6_thrown rfl rfl rfl (by decide +kernel) ⟨Nat.le_of_ble_eq_true rfl, Nat.le_of_ble_eq_true rfl⟩) ⟨wS.blind, MOB.recv hK hB2, fun U hU hW => wS.go hB2 hK C.hIm hU hW⟩ rfl rfl hl.1 rfl (lv_room (Nat.le_of_ble_eq_true rfl)) dL_law_1364 ⟨(by show cells + 1 + 0 + 0 ≤ 601024; omega), (by show slots + 6 + 0 + 0 ≤ 7293034; omega)⟩) hS (fun q _ h => hAn q h) (fun q h => hAn q h) (fun r_3 u3 t H_3 locs_3 ht hvm hw hB3 hz3 hk3 hS => ?_)
    have hM := hM.at hk3 hmg
    have hLo := (hk3 ao (oA.lt hLo) hmo).trans hLo
    have hDo := (hk3 ad (oA.lt hDo) hmd).trans hDo
    rw [ht] at hB3
    obtain rfl := hw
    refine lv_iload hx hb dL_law_1367 (lv_at hl 1 rfl) ?_
    refine lv_icmp_eq (tgt := 1374) hx hb dL_law_1369 rfl (fun _ => ?_) (fun h => absurd rfl h)
    refine lv_iload hx hb dL_law_1374 (lv_at hl 1 rfl) ?_
    refine lv_if_ne (tgt := 1391) hx hb dL_law_1376 rfl (fun h => absurd rfl h) (fun _ => ?_)
    have hLo := oA_eq hLo ((a_ifel hZ huu).trans hr7.symm)
    refine lv_aload_n hx hb dL_law_1379 rfl (lv_at hl 5 rfl) ?_
    refine lv_iconst (v := 0) hx hb dL_law_1380 (by decide) ?_
    refine w_lald hx hb hKL hLo dL_law_1381 ?_
    refine lv_iload hx hb dL_law_1382 (lv_at hl 0 rfl) ?_
    refine lv_i2l hx hb dL_law_1384 rfl ?_
    refine W.lcmp hx hb dL_law_1385 ?_
    rw [lg_same]
    refine lv_if_eq (tgt := 1391) hx hb dL_law_1386 rfl (fun _ => ?_) (fun h => absurd rfl h)
    refine lv_goto (tgt := 1485) hx hb dL_law_1391 rfl ?_
    refine W.widen (k := cells + 3) (n := slots + 18) (by omega) (by omega) (kk _ _ _ ⟨ln, bf, z, (y.1, y.2.1, y.2.2.1, y.2.2.2), ke, hs, ms, 0, cd, _, _, hM, hB3, RZ_le hZ (by omega), RHs_le hR (by omega), hcd, hLo, hDo⟩ hS (lv_sub hl [2, 3, 4, 5, 6, 7] rfl))
  · skip
    refine lv_istore (lv' := [(6, .int 1), (0, .ref b), (1, .ref (g 0)), (2, .ref (gm 0)), (3, .ref ao), (4, .ref ad), (5, .int (nI (4 * n)))]) hx hb dL_law_1349 hl (by decide) rfl (fun ls hl => ?_)
    refine lv_aload_n hx hb dL_law_1351 rfl (lv_at hl 3 rfl) ?_
    refine sc_load hx hb hX hbl hS hL hn (j := 1) (by decide) hw1 (lv_at hl 1 rfl) (lv_at hl 6 rfl) (by decide) dL_law_1352 dL_law_1353 dL_law_1355 dL_law_1356 dL_law_1357 ?_
    refine va_calli (va_runV (As := [_]) (rest := []) ⟨hx, hb, hml, hown, hts⟩ (c_X6_ifEliminated_no l E gm th ln bf y.1 y.2.1 y.2.2.1 y.2.2.2 ke ms w1 (inB_f (n := 3) rfl (by decide) (by decide) hc)) (cwV 1 hts gL_law_X6_ifEliminated rfl rfl rfl (by decide +kernel) ⟨Nat.le_of_ble_eq_true rfl, Nat.le_of_ble_eq_true rfl⟩) ⟨wS.blind, hO.recv hK, fun U hU hW => wS.go hO hK C.hIm hU hW⟩ rfl rfl hl.1 rfl (lv_room (Nat.le_of_ble_eq_true rfl)) dL_law_1358 ⟨(by show cells + 1 + 0 ≤ 601024; omega), (by show slots + 6 + 0 ≤ 7293034; omega)⟩) hS (fun q _ h => hAn q h) (fun q h => hAn q h) (fun r_2 u2 t H_2 locs_2 ht hvm hw hB2 hz2 hk2 hS => ?_)
    have hM := hM.at hk2 hmg
    have hLo := (hk2 ao (oA.lt hLo) hmo).trans hLo
    have hDo := (hk2 ad (oA.lt hDo) hmd).trans hDo
    rw [ht] at hB2
    obtain rfl := hw
    refine lv_topi (fun r7 hr7 => ?_)
    refine lv_istore (lv' := [(7, .int r7), (6, .int 1), (0, .ref b), (1, .ref (g 0)), (2, .ref (gm 0)), (3, .ref ao), (4, .ref ad), (5, .int (nI (4 * n)))]) hx hb dL_law_1361 hl (by decide) rfl (fun ls hl => ?_)
    refine lv_aload_n hx hb dL_law_1363 rfl (lv_at hl 4 rfl) ?_
    refine va_calli (va_runV (As := []) (rest := []) ⟨hx, hb, hml, hown, hts⟩ (c_X6_thrown_ok l E gm 1 ln bf y.1 y.2.1 y.2.2.1 y.2.2.2 ke ms) (cwV 0 hts gL_law_X6_thrown rfl rfl rfl (by decide +kernel) ⟨Nat.le_of_ble_eq_true rfl, Nat.le_of_ble_eq_true rfl⟩) ⟨wS.blind, MOB.recv hK hB2, fun U hU hW => wS.go hB2 hK C.hIm hU hW⟩ rfl rfl hl.1 rfl (lv_room (Nat.le_of_ble_eq_true rfl)) dL_law_1364 ⟨(by show cells + 1 + 0 + 0 ≤ 601024; omega), (by show slots + 6 + 0 + 0 ≤ 7293034; omega)⟩) hS (fun q _ h => hAn q h) (fun q h => hAn q h) (fun r_3 u3 t H_3 locs_3 ht hvm hw hB3 hz3 hk3 hS => ?_)
    have hM := hM.at hk3 hmg
    have hLo := (hk3 ao (oA.lt hLo) hmo).trans hLo
    have hDo := (hk3 ad (oA.lt hDo) hmd).trans hDo
    rw [ht] at hB3
    obtain rfl := hw
    refine lv_iload hx hb dL_law_1367 (lv_at hl 1 rfl) ?_
    refine lv_icmp_eq (tgt := 1374) hx hb dL_law_1369 rfl (fun _ => ?_) (fun h => absurd rfl h)
    refine lv_iload hx hb dL_law_1374 (lv_at hl 1 rfl) ?_
    refine lv_if_ne (tgt := 1391) hx hb dL_law_1376 rfl (fun _ => ?_) (fun h => absurd h (by decide))
    refine lv_goto (tgt := 1485) hx hb dL_law_1391 rfl ?_
    refine W.widen (k := cells + 3) (n := slots + 18) (by omega) (by omega) (kk _ _ _ ⟨ln, bf, z, (y.1, y.2.1, y.2.2.1, y.2.2.2), ke, hs, ms, 1, cd, _, _, hM, hB3, RZ_le hZ (by omega), RHs_le hR (by omega), hcd, hLo, hDo⟩ hS (lv_sub hl [2, 3, 4, 5, 6, 7] rfl))
set_option maxHeartbeats 4000000 in
set_option maxRecDepth 100000 in
theorem law_use {p : Program} {l : Launch} {e : Env} {s : State} {m : MethodId} {below : List Frame} {meth : Method} {c : Code} {b L : Nat} {xs : Nat → Int32} {E : wE} {cL cD : ClassId} {g gm : Nat → Nat} {ao ad : Nat} (C : LC p l s m meth c b L xs E cL cD g gm ao ad) {n B : Nat} (hn : 4 * n + 4 ≤ L) (hB : B ≤ 60000) {H : Heap} {locs : List Loc} {cells slots : Nat} {ls : Array Slot} {Q : State → Prop} (hcl9 : cells + 3 ≤ 601024) (hsl9 : slots + 18 ≤ 7293034) (hI : LI E cL cD g gm ao ad B H) (hS : va_S (lwA s) s.heap H locs)
    (hl : lv_has ls 9 [(0, .ref b), (1, .ref (g 0)), (2, .ref (gm 0)), (3, .ref ao), (4, .ref ad), (5, .int (nI (4 * n)))])
    (kk : ∀ (H2 : Heap) (locs2 : List Loc) (ls2 : Array Slot), LI E cL cD g gm ao ad (B + 100) H2 → va_S (lwA s) s.heap H2 locs2 → lv_has ls2 9 [(0, .ref b), (1, .ref (g 0)), (2, .ref (gm 0)), (3, .ref ao), (4, .ref ad), (5, .int (nI (4 * n)))] → W p l e room_1 s m #[Value.ref b] below meth c H2 locs2 (cells + 3) (slots + 18) Q (F0 m 1485 ls2 [])) : W p l e room_1 s m #[Value.ref b] below meth c H locs cells slots Q (F0 m 1394 ls []) := by
  have hx := C.hx
  have hb := C.hb
  have hml := C.hml
  have hown := C.hown
  have hts := C.hts
  have hX := C.hX
  have hbl := C.hbl
  have hst := C.hst
  have hL := C.hL
  have hK := C.hK
  have hKL := C.hKL
  have hxe := C.hxe
  have hxc := C.hxc
  obtain ⟨ln, bf, z, y, ke, hs, ms, th, cd, x0, d0, hM, hO, hZ, hR, hcd, hLo, hDo⟩ := hI
  have hzr := hM.rng
  have hAn : ∀ q, wF 6 gm q → lwA s q := by rintro q ⟨k, hk, rfl⟩; exact C.hAm k hk
  have hmg : ∀ k, k < 94 → ¬ wF 6 gm (g k) := by rintro k hk ⟨j, hj, e9⟩; exact C.ngm k j hk hj e9
  have hmo : ¬ wF 6 gm ao := by rintro ⟨j, hj, e9⟩; exact C.nmo j hj e9.symm
  have hmd : ¬ wF 6 gm ad := by rintro ⟨j, hj, e9⟩; exact C.nmd j hj e9.symm
  have hAw : ∀ q, wA g ad q → lwA s q := by
    rintro q (⟨k, hk, rfl⟩ | rfl)
    · exact C.hAg k hk
    · exact C.hAd
  have hwm : ∀ k, k < 6 → ¬ wA g ad (gm k) := by
    rintro k hk (⟨j, hj, e9⟩ | e9)
    · exact C.ngm j k hj hk e9.symm
    · exact C.nmd k hk e9
  have hwo : ¬ wA g ad ao := by
    rintro (⟨j, hj, e9⟩ | e9)
    · exact C.ngo j hj e9.symm
    · exact C.nod e9
  obtain ⟨w1, hw1⟩ : ∃ w, xs (4 * n + 1) = w := ⟨_, rfl⟩
  refine lv_aload_n hx hb dL_law_1394 rfl (lv_at hl 1 rfl) ?_
  refine sc_load hx hb hX hbl hS hL hn (j := 1) (by decide) hw1 (lv_at hl 0 rfl) (lv_at hl 5 rfl) (by decide) dL_law_1395 dL_law_1396 dL_law_1398 dL_law_1399 dL_law_1400 ?_
  refine lv_aload hx hb dL_law_1401 (lv_at hl 4 rfl) ?_
  refine va_calli (vx_runSW (As := [.ref (g 0), .int w1, .ref ad]) (rest := []) ⟨hx, hb, hml, hown, hts⟩ (c_L_use l hst cL cD ad E g ln bf z ke hs w1) (vx_cwSW 3 hts gL_law_L_use rfl rfl rfl (by decide +kernel) ⟨Nat.le_of_ble_eq_true rfl, Nat.le_of_ble_eq_true rfl⟩) ⟨wL.blind, fun U hU hW => wL.go hM ⟨_, hDo⟩ hK hKL C.hI C.ngd hxe hxc hS hAw hU hW⟩ rfl rfl hl.1 rfl (lv_room (Nat.le_of_ble_eq_true rfl)) dL_law_1403 ⟨Nat.le_trans (Nat.add_le_add_left (by decide) cells) hcl9, Nat.le_trans (Nat.add_le_add_left (by decide) slots) hsl9⟩) hS (fun q _ h => hAw q h) (fun q h => hAw q h) (fun r_1 u1 t H_1 locs_1 ht hvm hw hB1 hz1 hk1 hS => ?_)
  obtain rfl : r_1 = u1 := hw
  rw [ht] at hB1
  have hO := hO.at hk1 hwm
  have hLo := (hk1 ao hLo.lt hwo).trans hLo
  clear hDo hM
  rcases hB1 with ⟨rfl, hc, hDo, hM⟩ | ⟨rfl, hc, ⟨x1, hDo⟩, hM⟩
  · skip
    obtain ⟨uu, huu, rfl⟩ := i_in hc (by decide)
    have hcls : (nI uu).toNatClampNeg = uu := nI_clamp (by omega)
    simp only [hcls] at hM hDo
    refine lv_istore (lv' := [(6, .int 0), (0, .ref b), (1, .ref (g 0)), (2, .ref (gm 0)), (3, .ref ao), (4, .ref ad), (5, .int (nI (4 * n)))]) hx hb dL_law_1406 hl (by decide) rfl (fun ls hl => ?_)
    refine lv_aload_n hx hb dL_law_1408 rfl (lv_at hl 3 rfl) ?_
    refine sc_load hx hb hX hbl hS hL hn (j := 1) (by decide) hw1 (lv_at hl 1 rfl) (lv_at hl 6 rfl) (by decide) dL_law_1409 dL_law_1410 dL_law_1412 dL_law_1413 dL_law_1414 ?_
    refine va_calld (va_runV (As := [_]) (rest := []) ⟨hx, hb, hml, hown, hts⟩ (c_X6_use_ok l E gm th ln bf y.1 y.2.1 y.2.2.1 y.2.2.2 ke ms uu huu) (cwV 1 hts gL_law_X6_use rfl rfl rfl (by decide +kernel) ⟨Nat.le_of_ble_eq_true rfl, Nat.le_of_ble_eq_true rfl⟩) ⟨wS.blind, hO.recv hK, fun U hU hW => wS.go hO hK C.hIm hU hW⟩ rfl rfl hl.1 rfl (lv_room (Nat.le_of_ble_eq_true rfl)) dL_law_1415 ⟨(by show cells + 1 + 0 ≤ 601024; omega), (by show slots + 6 + 0 ≤ 7293034; omega)⟩) hS (fun q _ h => hAn q h) (fun q h => hAn q h) (fun r_2 u2 t H_2 locs_2 ht hvm hw hB2 hz2 hk2 hS => ?_)
    have hM := hM.at hk2 hmg
    have hLo := (hk2 ao (oA.lt hLo) hmo).trans hLo
    have hDo := (hk2 ad (oA.lt hDo) hmd).trans hDo
    rw [ht] at hB2
    obtain rfl := hw
    obtain ⟨r7, hr7⟩ : ∃ r, r = usF (y.2.2.2 uu).2.2.1 (y.2.2.2 uu).2.2.2.1 (y.2.2.2 uu).2.2.2.2.1 := ⟨_, rfl⟩
    rw [← hr7]
    refine lv_dstore (lv' := [(7, .double r7), (6, .int 0), (0, .ref b), (1, .ref (g 0)), (2, .ref (gm 0)), (3, .ref ao), (4, .ref ad), (5, .int (nI (4 * n)))]) hx hb dL_law_1418 hl (by decide) rfl (fun ls hl => ?_)
    refine lv_aload_n hx hb dL_law_1420 rfl (lv_at hl 4 rfl) ?_
    refine va_calli (va_runV (As := []) (rest := []) ⟨hx, hb, hml, hown, hts⟩ (c_X6_thrown_ok l E gm 0 ln bf y.1 y.2.1 y.2.2.1 y.2.2.2 ke ms) (cwV 0 hts gL_law_X6_thrown rfl rfl rfl (by decide +kernel) ⟨Nat.le_of_ble_eq_true rfl, Nat.le_of_ble_eq_true rfl⟩) ⟨wS.blind, MOB.recv hK hB2, fun U hU hW => wS.go hB2 hK C.hIm hU hW⟩ rfl rfl hl.1 rfl (lv_room (Nat.le_of_ble_eq_true rfl)) dL_law_1421 ⟨(by show cells + 1 + 0 + 0 ≤ 601024; omega), (by show slots + 6 + 0 + 0 ≤ 7293034; omega)⟩) hS (fun q _ h => hAn q h) (fun q h => hAn q h) (fun r_3 u3 t H_3 locs_3 ht hvm hw hB3 hz3 hk3 hS => ?_)
    have hM := hM.at hk3 hmg
    have hLo := (hk3 ao (oA.lt hLo) hmo).trans hLo
    have hDo := (hk3 ad (oA.lt hDo) hmd).trans hDo
    rw [ht] at hB3
    obtain rfl := hw
    refine lv_iload hx hb dL_law_1424 (lv_at hl 1 rfl) ?_
    refine lv_icmp_eq (tgt := 1431) hx hb dL_law_1426 rfl (fun _ => ?_) (fun h => absurd rfl h)
    refine lv_iload hx hb dL_law_1431 (lv_at hl 1 rfl) ?_
    refine lv_if_ne (tgt := 1468) hx hb dL_law_1433 rfl (fun h => absurd rfl h) (fun _ => ?_)
    have hDo := oA_eqD hDo ((a_use hZ huu (by omega)).trans hr7.symm)
    refine lv_aload hx hb dL_law_1436 (lv_at hl 6 rfl) ?_
    refine lv_iconst (v := 0) hx hb dL_law_1438 (by decide) ?_
    refine w_dald hx hb hKL hDo dL_law_1439 ?_
    refine lv_dload hx hb dL_law_1440 (lv_at hl 0 rfl) ?_
    refine lv_dcmp hx hb dL_law_1442 ?_
    rw [show FP.dcmp r7 r7 = some .eq from FP.Core.dcmp_refl (by rw [hr7]; exact nn_usF _ _ _)]
    refine lv_if_eq (tgt := 1468) hx hb dL_law_1443 rfl (fun _ => ?_) (fun h => absurd rfl h)
    refine lv_goto (tgt := 1485) hx hb dL_law_1468 rfl ?_
    refine W.widen (k := cells + 3) (n := slots + 18) (by omega) (by omega) (kk _ _ _ ⟨ln, bf, z, (y.1, y.2.1, y.2.2.1, y.2.2.2), ke, hs, ms, 0, cd, _, _, hM, hB3, RZ_le hZ (by omega), RHs_le hR (by omega), hcd, hLo, hDo⟩ hS (lv_sub hl [2, 3, 4, 5, 6, 7] rfl))
  · skip
    refine lv_istore (lv' := [(6, .int 1), (0, .ref b), (1, .ref (g 0)), (2, .ref (gm 0)), (3, .ref ao), (4, .ref ad), (5, .int (nI (4 * n)))]) hx hb dL_law_1406 hl (by decide) rfl (fun ls hl => ?_)
    refine lv_aload_n hx hb dL_law_1408 rfl (lv_at hl 3 rfl) ?_
    refine sc_load hx hb hX hbl hS hL hn (j := 1) (by decide) hw1 (lv_at hl 1 rfl) (lv_at hl 6 rfl) (by decide) dL_law_1409 dL_law_1410 dL_law_1412 dL_law_1413 dL_law_1414 ?_
    refine va_calld (va_runV (As := [_]) (rest := []) ⟨hx, hb, hml, hown, hts⟩ (c_X6_use_no l E gm th ln bf y.1 y.2.1 y.2.2.1 y.2.2.2 ke ms w1 (inB_f (n := 3) rfl (by decide) (by decide) hc)) (cwV 1 hts gL_law_X6_use rfl rfl rfl (by decide +kernel) ⟨Nat.le_of_ble_eq_true rfl, Nat.le_of_ble_eq_true rfl⟩) ⟨wS.blind, hO.recv hK, fun U hU hW => wS.go hO hK C.hIm hU hW⟩ rfl rfl hl.1 rfl (lv_room (Nat.le_of_ble_eq_true rfl)) dL_law_1415 ⟨(by show cells + 1 + 0 ≤ 601024; omega), (by show slots + 6 + 0 ≤ 7293034; omega)⟩) hS (fun q _ h => hAn q h) (fun q h => hAn q h) (fun r_2 u2 t H_2 locs_2 ht hvm hw hB2 hz2 hk2 hS => ?_)
    have hM := hM.at hk2 hmg
    have hLo := (hk2 ao (oA.lt hLo) hmo).trans hLo
    have hDo := (hk2 ad (oA.lt hDo) hmd).trans hDo
    rw [ht] at hB2
    obtain rfl := hw
    obtain ⟨r7, hr7⟩ : ∃ r, r = FP.dconst0 := ⟨_, rfl⟩
    rw [← hr7]
    refine lv_dstore (lv' := [(7, .double r7), (6, .int 1), (0, .ref b), (1, .ref (g 0)), (2, .ref (gm 0)), (3, .ref ao), (4, .ref ad), (5, .int (nI (4 * n)))]) hx hb dL_law_1418 hl (by decide) rfl (fun ls hl => ?_)
    refine lv_aload_n hx hb dL_law_1420 rfl (lv_at hl 4 rfl) ?_
    refine va_calli (va_runV (As := []) (rest := []) ⟨hx, hb, hml, hown, hts⟩ (c_X6_thrown_ok l E gm 1 ln bf y.1 y.2.1 y.2.2.1 y.2.2.2 ke ms) (cwV 0 hts gL_law_X6_thrown rfl rfl rfl (by decide +kernel) ⟨Nat.le_of_ble_eq_true rfl, Nat.le_of_ble_eq_true rfl⟩) ⟨wS.blind, MOB.recv hK hB2, fun U hU hW => wS.go hB2 hK C.hIm hU hW⟩ rfl rfl hl.1 rfl (lv_room (Nat.le_of_ble_eq_true rfl)) dL_law_1421 ⟨(by show cells + 1 + 0 + 0 ≤ 601024; omega), (by show slots + 6 + 0 + 0 ≤ 7293034; omega)⟩) hS (fun q _ h => hAn q h) (fun q h => hAn q h) (fun r_3 u3 t H_3 locs_3 ht hvm hw hB3 hz3 hk3 hS => ?_)
    have hM := hM.at hk3 hmg
    have hLo := (hk3 ao (oA.lt hLo) hmo).trans hLo
    have hDo := (hk3 ad (oA.lt hDo) hmd).trans hDo
    rw [ht] at hB3
    obtain rfl := hw
    refine lv_iload hx hb dL_law_1424 (lv_at hl 1 rfl) ?_
    refine lv_icmp_eq (tgt := 1431) hx hb dL_law_1426 rfl (fun _ => ?_) (fun h => absurd rfl h)
    refine lv_iload hx hb dL_law_1431 (lv_at hl 1 rfl) ?_
    refine lv_if_ne (tgt := 1468) hx hb dL_law_1433 rfl (fun _ => ?_) (fun h => absurd h (by decide))
    refine lv_goto (tgt := 1485) hx hb dL_law_1468 rfl ?_
    refine W.widen (k := cells + 3) (n := slots + 18) (by omega) (by omega) (kk _ _ _ ⟨ln, bf, z, (y.1, y.2.1, y.2.2.1, y.2.2.2), ke, hs, ms, 1, cd, _, _, hM, hB3, RZ_le hZ (by omega), RHs_le hR (by omega), hcd, hLo, hDo⟩ hS (lv_sub hl [2, 3, 4, 5, 6, 7] rfl))

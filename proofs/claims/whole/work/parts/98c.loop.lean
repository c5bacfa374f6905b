/-! the law: the calls without a wrapper, the loop, the start -/
section LAWX
variable {p : Program} {l : Launch} {e : Env} {s : State} {m : MethodId} {below : List Frame} {meth : Method} {c : Code} {b L : Nat} {xs : Nat → Int32} {E : wE} {cL cD : ClassId} {g gm : Nat → Nat} {ao ad : Nat}
theorem LC.mg (C : LC p l s m meth c b L xs E cL cD g gm ao ad) : ∀ k, k < 94 → ¬ wF 6 gm (g k) := by rintro k hk ⟨j, hj, e9⟩; exact C.ngm k j hk hj e9
theorem LC.mo (C : LC p l s m meth c b L xs E cL cD g gm ao ad) : ¬ wF 6 gm ao := by rintro ⟨j, hj, e9⟩; exact C.nmo j hj e9.symm
theorem LC.md (C : LC p l s m meth c b L xs E cL cD g gm ao ad) : ¬ wF 6 gm ad := by rintro ⟨j, hj, e9⟩; exact C.nmd j hj e9.symm
theorem LC.an (C : LC p l s m meth c b L xs E cL cD g gm ao ad) : ∀ q, wF 6 gm q → lwA s q := by rintro q ⟨k, hk, rfl⟩; exact C.hAm k hk
theorem LC.gn (C : LC p l s m meth c b L xs E cL cD g gm ao ad) : ∀ q, wF 94 g q → lwA s q := by rintro q ⟨k, hk, rfl⟩; exact C.hAg k hk
theorem LC.gm' (C : LC p l s m meth c b L xs E cL cD g gm ao ad) : ∀ k, k < 6 → ¬ wF 94 g (gm k) := by rintro k hk ⟨j, hj, e9⟩; exact C.ngm j k hj hk e9.symm
theorem LC.go' (C : LC p l s m meth c b L xs E cL cD g gm ao ad) : ¬ wF 94 g ao := by rintro ⟨j, hj, e9⟩; exact C.ngo j hj e9.symm
theorem LC.gd' (C : LC p l s m meth c b L xs E cL cD g gm ao ad) : ¬ wF 94 g ad := by rintro ⟨j, hj, e9⟩; exact C.ngd j hj e9.symm
variable {n B : Nat} {H : Heap} {locs : List Loc} {cells slots : Nat} {ls : Array Slot} {Q : State → Prop}
set_option maxHeartbeats 4000000 in
set_option maxRecDepth 100000 in
theorem law_clearBuffer (C : LC p l s m meth c b L xs E cL cD g gm ao ad) (hn : 4 * n + 4 ≤ L) (hB : B ≤ 60000) (hcl9 : cells + 3 ≤ 601024) (hsl9 : slots + 18 ≤ 7293034) (hI : LI E cL cD g gm ao ad B H) (hS : va_S (lwA s) s.heap H locs)
    (hl : lv_has ls 9 [(0, .ref b), (1, .ref (g 0)), (2, .ref (gm 0)), (3, .ref ao), (4, .ref ad), (5, .int (nI (4 * n)))])
    (kk : ∀ (H2 : Heap) (locs2 : List Loc) (ls2 : Array Slot), LI E cL cD g gm ao ad (B + 100) H2 → va_S (lwA s) s.heap H2 locs2 → lv_has ls2 9 [(0, .ref b), (1, .ref (g 0)), (2, .ref (gm 0)), (3, .ref ao), (4, .ref ad), (5, .int (nI (4 * n)))] → W p l e room_1 s m #[Value.ref b] below meth c H2 locs2 (cells + 3) (slots + 18) Q (F0 m 1485 ls2 [])) : W p l e room_1 s m #[Value.ref b] below meth c H locs cells slots Q (F0 m 584 ls []) := by
  have hx := C.hx
  have hb := C.hb
  have hml := C.hml
  have hown := C.hown
  have hts := C.hts
  have hK := C.hK
  obtain ⟨ln, bf, z, y, ke, hs, ms, th, cd, x0, d0, hM, hO, hZ, hR, hcd, hLo, hDo⟩ := hI
  refine lv_aload_n hx hb dL_law_584 rfl (lv_at hl 1 rfl) ?_
  refine va_calli (va_runV (As := []) (rest := []) ⟨hx, hb, hml, hown, hts⟩ (c_X5_clearBuffer l E g ln bf z ke hs) (cwV 0 hts gL_law_X5_clearBuffer rfl rfl rfl (by decide +kernel) ⟨Nat.le_of_ble_eq_true rfl, Nat.le_of_ble_eq_true rfl⟩) ⟨wS.blind, hM.recv hK, fun U hU hW => wS.go hM hK C.hI hU hW⟩ rfl rfl hl.1 rfl (lv_room (Nat.le_of_ble_eq_true rfl)) dL_law_585 ⟨(by show cells + 0 ≤ 601024; omega), (by show slots + 0 ≤ 7293034; omega)⟩) hS (fun q _ h => C.gn q h) (fun q h => C.gn q h) (fun r_1 u1 t H_1 locs_1 ht hvm hw hB1 hz1 hk1 hS => ?_)
  rw [ht] at hB1
  obtain rfl := hw
  have hO := hO.at hk1 C.gm'
  have hLo := (hk1 ao (oA.lt hLo) C.go').trans hLo
  have hDo := (hk1 ad (oA.lt hDo) C.gd').trans hDo
  refine lv_aload_n hx hb dL_law_588 rfl (lv_at hl 2 rfl) ?_
  refine va_calli (va_runV (As := []) (rest := [.int (nI ln)]) ⟨hx, hb, hml, hown, hts⟩ (c_X6_clearBuffer_ok l E gm th ln bf y.1 y.2.1 y.2.2.1 y.2.2.2 ke ms) (cwV 0 hts gL_law_X6_clearBuffer rfl rfl rfl (by decide +kernel) ⟨Nat.le_of_ble_eq_true rfl, Nat.le_of_ble_eq_true rfl⟩) ⟨wS.blind, hO.recv hK, fun U hU hW => wS.go hO hK C.hIm hU hW⟩ rfl rfl hl.1 rfl (lv_room (Nat.le_of_ble_eq_true rfl)) dL_law_589 ⟨(by show cells + 0 + 0 ≤ 601024; omega), (by show slots + 0 + 0 ≤ 7293034; omega)⟩) hS (fun q _ h => C.an q h) (fun q h => C.an q h) (fun r_2 u2 t H_2 locs_2 ht hvm hw hB2 hz2 hk2 hS => ?_)
  rw [ht] at hB2
  obtain rfl := hw
  have hM := MB.at hB1 hk2 C.mg
  have hLo := (hk2 ao (oA.lt hLo) C.mo).trans hLo
  have hDo := (hk2 ad (oA.lt hDo) C.md).trans hDo
  refine lv_icmp_eq (tgt := 1485) hx hb dL_law_592 rfl (fun _ => ?_) (fun h => absurd rfl h)
  refine W.widen (k := cells + 3) (n := slots + 18) (by omega) (by omega) (kk _ _ _ ⟨0, bf, z, y, ke, hs, ms, 0, cd, _, _, hM, hB2, RZ_le hZ (by omega), RHs_le hR (by omega), cd_0, hLo, hDo⟩ hS (lv_sub hl [0, 1, 2, 3, 4, 5] rfl))
set_option maxHeartbeats 4000000 in
set_option maxRecDepth 100000 in
theorem law_firstError (C : LC p l s m meth c b L xs E cL cD g gm ao ad) (hn : 4 * n + 4 ≤ L) (hB : B ≤ 60000) (hcl9 : cells + 3 ≤ 601024) (hsl9 : slots + 18 ≤ 7293034) (hI : LI E cL cD g gm ao ad B H) (hS : va_S (lwA s) s.heap H locs)
    (hl : lv_has ls 9 [(0, .ref b), (1, .ref (g 0)), (2, .ref (gm 0)), (3, .ref ao), (4, .ref ad), (5, .int (nI (4 * n)))])
    (kk : ∀ (H2 : Heap) (locs2 : List Loc) (ls2 : Array Slot), LI E cL cD g gm ao ad (B + 100) H2 → va_S (lwA s) s.heap H2 locs2 → lv_has ls2 9 [(0, .ref b), (1, .ref (g 0)), (2, .ref (gm 0)), (3, .ref ao), (4, .ref ad), (5, .int (nI (4 * n)))] → W p l e room_1 s m #[Value.ref b] below meth c H2 locs2 (cells + 3) (slots + 18) Q (F0 m 1485 ls2 [])) : W p l e room_1 s m #[Value.ref b] below meth c H locs cells slots Q (F0 m 597 ls []) := by
  have hx := C.hx
  have hb := C.hb
  have hml := C.hml
  have hown := C.hown
  have hts := C.hts
  have hK := C.hK
  obtain ⟨ln, bf, z, y, ke, hs, ms, th, cd, x0, d0, hM, hO, hZ, hR, hcd, hLo, hDo⟩ := hI
  refine lv_aload_n hx hb dL_law_597 rfl (lv_at hl 1 rfl) ?_
  refine va_calli (va_runV (As := []) (rest := []) ⟨hx, hb, hml, hown, hts⟩ (c_X5_firstError l E g ln bf z ke hs cd (fun j h => (hcd j h).1) (fun j h => (hcd j h).2)) (cwV 0 hts gL_law_X5_firstError rfl rfl rfl (by decide +kernel) ⟨Nat.le_of_ble_eq_true rfl, Nat.le_of_ble_eq_true rfl⟩) ⟨wS.blind, hM.recv hK, fun U hU hW => wS.go hM hK C.hI hU hW⟩ rfl rfl hl.1 rfl (lv_room (Nat.le_of_ble_eq_true rfl)) dL_law_598 ⟨(by show cells + 0 ≤ 601024; omega), (by show slots + 0 ≤ 7293034; omega)⟩) hS (fun q _ h => C.gn q h) (fun q h => C.gn q h) (fun r_1 u1 t H_1 locs_1 ht hvm hw hB1 hz1 hk1 hS => ?_)
  rw [ht] at hB1
  obtain rfl := hw
  have hO := hO.at hk1 C.gm'
  have hLo := (hk1 ao (oA.lt hLo) C.go').trans hLo
  have hDo := (hk1 ad (oA.lt hDo) C.gd').trans hDo
  refine lv_aload_n hx hb dL_law_601 rfl (lv_at hl 2 rfl) ?_
  refine va_calli (va_runV (As := []) (rest := [.int (nI (feT cd ln).1)]) ⟨hx, hb, hml, hown, hts⟩ (c_X6_firstError_ok l E gm th ln bf y.1 y.2.1 y.2.2.1 y.2.2.2 ke ms cd (fun j h => (hcd j h).1) (fun j h => (hcd j h).2)) (cwV 0 hts gL_law_X6_firstError rfl rfl rfl (by decide +kernel) ⟨Nat.le_of_ble_eq_true rfl, Nat.le_of_ble_eq_true rfl⟩) ⟨wS.blind, hO.recv hK, fun U hU hW => wS.go hO hK C.hIm hU hW⟩ rfl rfl hl.1 rfl (lv_room (Nat.le_of_ble_eq_true rfl)) dL_law_602 ⟨(by show cells + 0 + 0 ≤ 601024; omega), (by show slots + 0 + 0 ≤ 7293034; omega)⟩) hS (fun q _ h => C.an q h) (fun q h => C.an q h) (fun r_2 u2 t H_2 locs_2 ht hvm hw hB2 hz2 hk2 hS => ?_)
  rw [ht] at hB2
  have he : nI (feT cd ln).1 = r_2 := by
    have h1 := (t_err (cd := cd) (ln := ln) (nb := y.1) (y := (y.2.2.1, y.2.2.2))).1
    have h2 : r_2 = (if (goM cd ln y.1 false (ln + 1) 0 0 (y.2.2.1, y.2.2.2)).1 = true then nI (goM cd ln y.1 false (ln + 1) 0 0 (y.2.2.1, y.2.2.2)).2.1 else nI ln) := hw
    rw [h1, h2]
    split
    · rfl
    · rfl
  have hM := MB.at hB1.mb hk2 C.mg
  have hLo := (hk2 ao (oA.lt hLo) C.mo).trans hLo
  have hDo := (hk2 ad (oA.lt hDo) C.md).trans hDo
  refine lv_icmp_eq (tgt := 1485) hx hb dL_law_605 rfl (fun _ => ?_) (fun h => absurd he h)
  refine W.widen (k := cells + 3) (n := slots + 18) (by omega) (by omega) (kk _ _ _ ⟨ln, bf, z, y, ke, hs, ms, 0, cd, _, _, hM, hB2, RZ_le hZ (by omega), RHs_le hR (by omega), hcd, hLo, hDo⟩ hS (lv_sub hl [0, 1, 2, 3, 4, 5] rfl))
set_option maxHeartbeats 4000000 in
set_option maxRecDepth 100000 in
theorem law_digest (C : LC p l s m meth c b L xs E cL cD g gm ao ad) (hn : 4 * n + 4 ≤ L) (hB : B ≤ 60000) (hcl9 : cells + 3 ≤ 601024) (hsl9 : slots + 18 ≤ 7293034) (hI : LI E cL cD g gm ao ad B H) (hS : va_S (lwA s) s.heap H locs)
    (hl : lv_has ls 9 [(0, .ref b), (1, .ref (g 0)), (2, .ref (gm 0)), (3, .ref ao), (4, .ref ad), (5, .int (nI (4 * n)))])
    (kk : ∀ (H2 : Heap) (locs2 : List Loc) (ls2 : Array Slot), LI E cL cD g gm ao ad (B + 100) H2 → va_S (lwA s) s.heap H2 locs2 → lv_has ls2 9 [(0, .ref b), (1, .ref (g 0)), (2, .ref (gm 0)), (3, .ref ao), (4, .ref ad), (5, .int (nI (4 * n)))] → W p l e room_1 s m #[Value.ref b] below meth c H2 locs2 (cells + 3) (slots + 18) Q (F0 m 1485 ls2 [])) : W p l e room_1 s m #[Value.ref b] below meth c H locs cells slots Q (F0 m 1471 ls []) := by
  have hx := C.hx
  have hb := C.hb
  have hml := C.hml
  have hown := C.hown
  have hts := C.hts
  have hK := C.hK
  obtain ⟨ln, bf, z, y, ke, hs, ms, th, cd, x0, d0, hM, hO, hZ, hR, hcd, hLo, hDo⟩ := hI
  refine lv_aload_n hx hb dL_law_1471 rfl (lv_at hl 1 rfl) ?_
  refine va_calll (va_runV (As := []) (rest := []) ⟨hx, hb, hml, hown, hts⟩ (c_X5_digest l E g ln bf z ke hs) (cwV 0 hts gL_law_X5_digest rfl rfl rfl (by decide +kernel) ⟨Nat.le_of_ble_eq_true rfl, Nat.le_of_ble_eq_true rfl⟩) ⟨wSd.blind, hM.recv hK, fun U hU hW => wSd.go hM hK C.hI C.hxe.2.2.2.2 hS C.gn hU hW⟩ rfl rfl hl.1 rfl (lv_room (Nat.le_of_ble_eq_true rfl)) dL_law_1472 ⟨(by show cells + 0 ≤ 601024; omega), (by show slots + 0 ≤ 7293034; omega)⟩) hS (fun q _ h => C.gn q h) (fun q h => C.gn q h) (fun r_1 u1 t H_1 locs_1 ht hvm hw hB1 hz1 hk1 hS => ?_)
  rw [ht] at hB1
  have hw1 : r_1 = dmF y.1 y.2.1 y.2.2.1 y.2.2.2 ke ln bf := hw.trans (a_digest hZ (by omega) ke ln bf)
  obtain rfl := hw1
  have hO := hO.at hk1 C.gm'
  have hLo := (hk1 ao (oA.lt hLo) C.go').trans hLo
  have hDo := (hk1 ad (oA.lt hDo) C.gd').trans hDo
  refine lv_aload_n hx hb dL_law_1475 rfl (lv_at hl 2 rfl) ?_
  refine va_calll (va_runV (As := []) (rest := [.long (dmF y.1 y.2.1 y.2.2.1 y.2.2.2 ke ln bf)]) ⟨hx, hb, hml, hown, hts⟩ (c_X6_digest_ok l E gm th ln bf y.1 y.2.1 y.2.2.1 y.2.2.2 ke ms (a_bok hZ (by omega))) (cwV 0 hts gL_law_X6_digest rfl rfl rfl (by decide +kernel) ⟨Nat.le_of_ble_eq_true rfl, Nat.le_of_ble_eq_true rfl⟩) ⟨wS.blind, hO.recv hK, fun U hU hW => wS.go hO hK C.hIm hU hW⟩ rfl rfl hl.1 rfl (lv_room (Nat.le_of_ble_eq_true rfl)) dL_law_1476 ⟨(by show cells + 0 + 0 ≤ 601024; omega), (by show slots + 0 + 0 ≤ 7293034; omega)⟩) hS (fun q _ h => C.an q h) (fun q h => C.an q h) (fun r_2 u2 t H_2 locs_2 ht hvm hw hB2 hz2 hk2 hS => ?_)
  rw [ht] at hB2
  have hw2 : r_2 = dmF y.1 y.2.1 y.2.2.1 y.2.2.2 ke ln bf := hw
  subst hw2
  have hM := MB.at hB1 hk2 C.mg
  have hLo := (hk2 ao (oA.lt hLo) C.mo).trans hLo
  have hDo := (hk2 ad (oA.lt hDo) C.md).trans hDo
  refine W.lcmp hx hb dL_law_1479 ?_
  rw [lg_same]
  refine lv_if_eq (tgt := 1485) hx hb dL_law_1480 rfl (fun _ => ?_) (fun h => absurd rfl h)
  refine W.widen (k := cells + 3) (n := slots + 18) (by omega) (by omega) (kk _ _ _ ⟨ln, bf, z, y, ke, hs, ms, 0, cd, _, _, hM, hB2, RZ_le hZ (by omega), RHs_le hR (by omega), hcd, hLo, hDo⟩ hS (lv_sub hl [0, 1, 2, 3, 4, 5] rfl))
theorem and31 (x : Int32) : ∃ k, k < 32 ∧ x &&& 31 = nI k := by
  refine ⟨(x &&& 31).toBitVec.toNat, ?_, ?_⟩
  · have h : (x &&& 31).toBitVec = x.toBitVec &&& 31#32 := rfl
    rw [h, BitVec.toNat_and]
    exact Nat.lt_of_le_of_lt Nat.and_le_right (by decide)
  · apply Int32.toBitVec_inj.mp
    show (x &&& 31).toBitVec = BitVec.ofNat 32 (x &&& 31).toBitVec.toNat
    rw [BitVec.ofNat_toNat, BitVec.setWidth_eq]
theorem lim_cmp {L n : Nat} (hL : L ≤ 2048) (hn : n ≤ L / 4) : (nI L - nI 4 < nI (4 * n)) ↔ ¬ 4 * n + 4 ≤ L := by
  by_cases h : 4 ≤ L
  · rw [pk_sub h, nI_ltI (by omega) (by omega)]
    omega
  · have h0 : n = 0 := by omega
    subst h0
    refine ⟨fun _ => by omega, fun _ => ?_⟩
    exact pk_sneg (a := L) (b := 4) (by omega) (by omega)
set_option maxHeartbeats 4000000 in
set_option maxRecDepth 100000 in
/-- one turn of the loop, by the number of its call -/
theorem law_turn (C : LC p l s m meth c b L xs E cL cD g gm ao ad) (hn : 4 * n + 4 ≤ L) (hB : B ≤ 60000) (hcl9 : cells + 3 ≤ 601024) (hsl9 : slots + 18 ≤ 7293034) (hI : LI E cL cD g gm ao ad B H) (hS : va_S (lwA s) s.heap H locs)
    (hl : lv_has ls 9 [(0, .ref b), (1, .ref (g 0)), (2, .ref (gm 0)), (3, .ref ao), (4, .ref ad), (5, .int (nI (4 * n)))])
    (kk : ∀ (H2 : Heap) (locs2 : List Loc) (ls2 : Array Slot), LI E cL cD g gm ao ad (B + 100) H2 → va_S (lwA s) s.heap H2 locs2 → lv_has ls2 9 [(0, .ref b), (1, .ref (g 0)), (2, .ref (gm 0)), (3, .ref ao), (4, .ref ad), (5, .int (nI (4 * n)))] → W p l e room_1 s m #[Value.ref b] below meth c H2 locs2 (cells + 3) (slots + 18) Q (F0 m 1485 ls2 [])) {k : Nat} (hk : k < 32) : W p l e room_1 s m #[Value.ref b] below meth c H locs cells slots Q (F0 m 44 ls [.int (nI k)]) := by
  have hx := C.hx
  have hb := C.hb
  by_cases h : k < 23
  · have h9 : k = 0 ∨ k = 1 ∨ k = 2 ∨ k = 3 ∨ k = 4 ∨ k = 5 ∨ k = 6 ∨ k = 7 ∨ k = 8 ∨ k = 9 ∨ k = 10 ∨ k = 11 ∨ k = 12 ∨ k = 13 ∨ k = 14 ∨ k = 15 ∨ k = 16 ∨ k = 17 ∨ k = 18 ∨ k = 19 ∨ k = 20 ∨ k = 21 ∨ k = 22 := by omega
    rcases h9 with rfl | rfl | rfl | rfl | rfl | rfl | rfl | rfl | rfl | rfl | rfl | rfl | rfl | rfl | rfl | rfl | rfl | rfl | rfl | rfl | rfl | rfl | rfl
    · exact lv_tableIn (off := 108) (tgt := 152) hx hb dL_law_44 (by decide) (by decide) rfl rfl (law_size C hn hB hcl9 hsl9 hI hS hl kk)
    · exact lv_tableIn (off := 164) (tgt := 208) hx hb dL_law_44 (by decide) (by decide) rfl rfl (law_write C hn hB hcl9 hsl9 hI hS hl kk)
    · exact lv_tableIn (off := 232) (tgt := 276) hx hb dL_law_44 (by decide) (by decide) rfl rfl (law_listen C hn hB hcl9 hsl9 hI hS hl kk)
    · exact lv_tableIn (off := 316) (tgt := 360) hx hb dL_law_44 (by decide) (by decide) rfl rfl (law_forget C hn hB hcl9 hsl9 hI hS hl kk)
    · exact lv_tableIn (off := 372) (tgt := 416) hx hb dL_law_44 (by decide) (by decide) rfl rfl (law_send C hn hB hcl9 hsl9 hI hS hl kk)
    · exact lv_tableIn (off := 428) (tgt := 472) hx hb dL_law_44 (by decide) (by decide) rfl rfl (law_eliminate C hn hB hcl9 hsl9 hI hS hl kk)
    · exact lv_tableIn (off := 484) (tgt := 528) hx hb dL_law_44 (by decide) (by decide) rfl rfl (law_append C hn hB hcl9 hsl9 hI hS hl kk)
    · exact lv_tableIn (off := 540) (tgt := 584) hx hb dL_law_44 (by decide) (by decide) rfl rfl (law_clearBuffer C hn hB hcl9 hsl9 hI hS hl kk)
    · exact lv_tableIn (off := 553) (tgt := 597) hx hb dL_law_44 (by decide) (by decide) rfl rfl (law_firstError C hn hB hcl9 hsl9 hI hS hl kk)
    · exact lv_tableIn (off := 566) (tgt := 610) hx hb dL_law_44 (by decide) (by decide) rfl rfl (law_sendAll C hn hB hcl9 hsl9 hI hS hl kk)
    · exact lv_tableIn (off := 610) (tgt := 654) hx hb dL_law_44 (by decide) (by decide) rfl rfl (law_undo C hn hB hcl9 hsl9 hI hS hl kk)
    · exact lv_tableIn (off := 654) (tgt := 698) hx hb dL_law_44 (by decide) (by decide) rfl rfl (law_mix C hn hB hcl9 hsl9 hI hS hl kk)
    · exact lv_tableIn (off := 722) (tgt := 766) hx hb dL_law_44 (by decide) (by decide) rfl rfl (law_receiver C hn hB hcl9 hsl9 hI hS hl kk)
    · exact lv_tableIn (off := 790) (tgt := 834) hx hb dL_law_44 (by decide) (by decide) rfl rfl (law_known C hn hB hcl9 hsl9 hI hS hl kk)
    · exact lv_tableIn (off := 858) (tgt := 902) hx hb dL_law_44 (by decide) (by decide) rfl rfl (law_waiting C hn hB hcl9 hsl9 hI hS hl kk)
    · exact lv_tableIn (off := 938) (tgt := 982) hx hb dL_law_44 (by decide) (by decide) rfl rfl (law_count C hn hB hcl9 hsl9 hI hS hl kk)
    · exact lv_tableIn (off := 994) (tgt := 1038) hx hb dL_law_44 (by decide) (by decide) rfl rfl (law_block C hn hB hcl9 hsl9 hI hS hl kk)
    · exact lv_tableIn (off := 1050) (tgt := 1094) hx hb dL_law_44 (by decide) (by decide) rfl rfl (law_ifGot C hn hB hcl9 hsl9 hI hS hl kk)
    · exact lv_tableIn (off := 1130) (tgt := 1174) hx hb dL_law_44 (by decide) (by decide) rfl rfl (law_helps C hn hB hcl9 hsl9 hI hS hl kk)
    · exact lv_tableIn (off := 1198) (tgt := 1242) hx hb dL_law_44 (by decide) (by decide) rfl rfl (law_needs C hn hB hcl9 hsl9 hI hS hl kk)
    · exact lv_tableIn (off := 1294) (tgt := 1338) hx hb dL_law_44 (by decide) (by decide) rfl rfl (law_ifEliminated C hn hB hcl9 hsl9 hI hS hl kk)
    · exact lv_tableIn (off := 1350) (tgt := 1394) hx hb dL_law_44 (by decide) (by decide) rfl rfl (law_use C hn hB hcl9 hsl9 hI hS hl kk)
    · exact lv_tableIn (off := 1427) (tgt := 1471) hx hb dL_law_44 (by decide) (by decide) rfl rfl (law_digest C hn hB hcl9 hsl9 hI hS hl kk)
  · refine lv_tableOut (tgt := 1485) hx hb dL_law_44 (Or.inr ?_) rfl ?_
    · rw [nI_toInt (by omega)]; omega
    · obtain ⟨ln, bf, z, y, ke, hs, ms, th, cd, x0, d0, hM, hO, hZ, hR, hr⟩ := hI
      exact W.widen (k := cells + 3) (n := slots + 18) (by omega) (by omega) (kk _ _ _ ⟨ln, bf, z, y, ke, hs, ms, th, cd, x0, d0, hM, hO, RZ_le hZ (by omega), RHs_le hR (by omega), hr⟩ hS hl)
set_option maxHeartbeats 4000000 in
set_option maxRecDepth 100000 in
/-- the loop -/
theorem law_loop (C : LC p l s m meth c b L xs E cL cD g gm ao ad)
    (kend : ∀ (H2 : Heap) (locs2 : List Loc) (ls2 : Array Slot) (cells2 slots2 : Nat), cells2 ≤ 601024 → slots2 ≤ 7293034 → va_S (lwA s) s.heap H2 locs2 → W p l e room_1 s m #[Value.ref b] below meth c H2 locs2 cells2 slots2 Q (F0 m 1491 ls2 [])) :
    ∀ (k n B : Nat) (H : Heap) (locs : List Loc) (cells slots : Nat) (ls : Array Slot), n + k = L / 4 → B + 100 * k ≤ 60000 → cells + 3 * k ≤ 601024 → slots + 18 * k ≤ 7293034 → LI E cL cD g gm ao ad B H → va_S (lwA s) s.heap H locs →
      lv_has ls 9 [(0, .ref b), (1, .ref (g 0)), (2, .ref (gm 0)), (3, .ref ao), (4, .ref ad), (5, .int (nI (4 * n)))] → W p l e room_1 s m #[Value.ref b] below meth c H locs cells slots Q (F0 m 28 ls []) := by
  have hx := C.hx
  have hb := C.hb
  have hL := C.hL
  intro k
  induction k with
  | zero =>
    intro n B H locs cells slots ls hk hB hc9 hs9 hI hS hl
    refine lv_iload hx hb dL_law_28 (lv_at hl 5 rfl) ?_
    refine lv_aload_n hx hb dL_law_30 rfl (lv_at hl 0 rfl) ?_
    refine va_slen hx hb C.hX C.hbl (Nat.not_le_of_lt C.hbl) hS dL_law_31 ?_
    refine lv_iconst (v := nI 4) hx hb dL_law_32 (by decide) ?_
    refine lv_isub hx hb dL_law_33 ?_
    refine lv_icmp_gt (tgt := 1491) hx hb dL_law_34 rfl (fun _ => ?_) (fun h => ?_)
    · exact kend _ _ _ _ _ (by omega) (by omega) hS
    · exact absurd ((lim_cmp hL (by omega)).mpr (by omega)) h
  | succ k ih =>
    intro n B H locs cells slots ls hk hB hc9 hs9 hI hS hl
    have hn : 4 * n + 4 ≤ L := by omega
    refine lv_iload hx hb dL_law_28 (lv_at hl 5 rfl) ?_
    refine lv_aload_n hx hb dL_law_30 rfl (lv_at hl 0 rfl) ?_
    refine va_slen hx hb C.hX C.hbl (Nat.not_le_of_lt C.hbl) hS dL_law_31 ?_
    refine lv_iconst (v := nI 4) hx hb dL_law_32 (by decide) ?_
    refine lv_isub hx hb dL_law_33 ?_
    refine lv_icmp_gt (tgt := 1491) hx hb dL_law_34 rfl (fun h => ?_) (fun _ => ?_)
    · exact absurd hn ((lim_cmp hL (by omega)).mp h)
    refine sc_load0 hx hb C.hX C.hbl hS hL hn rfl (lv_at hl 0 rfl) (lv_at hl 5 rfl) dL_law_37 dL_law_38 dL_law_40 ?_
    refine lv_bipush (v := 31) hx hb dL_law_41 (by decide) ?_
    refine lv_iand hx hb dL_law_43 ?_
    obtain ⟨k0, hk0, e0⟩ := and31 (xs (4 * n))
    rw [e0]
    refine law_turn C hn (by omega) (by omega) (by omega) hI hS hl (fun H2 locs2 ls2 hI2 hS2 hl2 => ?_) hk0
    refine lv_iinc (k := 5) (v := nI (4 * (n + 1))) (lv' := [(5, .int (nI (4 * (n + 1)))), (0, .ref b), (1, .ref (g 0)), (2, .ref (gm 0)), (3, .ref ao), (4, .ref ad)]) hx hb dL_law_1485 hl2 rfl ?_ (by decide) rfl (fun ls3 hl3 => ?_)
    · rw [show Int32.ofInt 4 = nI 4 from by decide, nI_add, show 4 * n + 4 = 4 * (n + 1) by omega]
    refine lv_goto (tgt := 28) hx hb dL_law_1488 rfl ?_
    exact ih (n + 1) (B + 100) H2 locs2 (cells + 3) (slots + 18) ls3 (by omega) (by omega) (by omega) (by omega) hI2 hS2 (lv_sub hl3 [1, 2, 3, 4, 5, 0] rfl)
end LAWX

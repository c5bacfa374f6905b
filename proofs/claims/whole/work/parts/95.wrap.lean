/-! the law's wrappers: an answer is laid into the array, or the exception's number comes back -/
set_option maxHeartbeats 4000000 in
set_option maxRecDepth 100000 in
theorem c_L_size (l : Launch) (hst : l.stackTraces = false) (cL cD : ClassId) (ao : Nat) (E : wE) (g : Nat → Nat) (ln : Nat) (bf : Nat → Int32) (z : SS) (ke : Nat) (hs : Nat → SS) (x : Int32) : Met l yL_size wsL_size ({ frames := 7, cells := 1, slots := 6, locals := 173 }) (va_Pc [.ref ((g 0)), .int x, .ref ao] (wL E cL cD g ao (fun H => ∃ x, oA cL ao (.long x) H) (MB E g ln bf z ke hs))) (va_Qi (fun (r u : Int32) => r = u) (fun u t => (u = 0 ∧ ((2 ≤ x ∧ x ≤ 12)) ∧ oA cL ao (.long ((nI z.1)).toInt64) t.heap ∧ MB E g ln bf (sizeZ z x.toNatClampNeg) (kpK ke) (pushH ke hs z) t.heap) ∨ (u = 1 ∧ (¬ (2 ≤ x ∧ x ≤ 12)) ∧ (∃ x, oA cL ao (.long x) t.heap) ∧ MB E g ln bf z ke hs t.heap)) (wA g ao)) 1 6 (wA g ao) := by
  refine w_ofWH (cc := cL_size) (maxL := 4) (ret := some .int) (hh := [(0, 9, 12, 13)]) (by decide) rfl ?_
  intro p e s m args below meth c s₁ B hml hv
  obtain ⟨rfl, hM, ⟨x0, hO⟩, hK, hKL, hI, hne, hxe, hxc⟩ := hv
  have hx := B.exec
  have hb := B.bytes
  have hr := B.returns
  have hts := atoms_spec (ws := wsL_size) B.pre
  have hown : s.vm.findClass RL = some m.cls := findClass_of_methodNamed B.named
  have hlocks := B.notSynchronized
  have htb := vx_table (x := yL_size) B (hts _ List.mem_cons_self)
  have hS : va_S (wA g ao) s.heap s.heap [] := va_S.rf
  have hz0 : ao < s.heap.size := hO.lt
  have hao : ¬ wF 94 g ao := fun ⟨k, hk, e⟩ => hne k hk e.symm
  have hl := lv_entry ([.ref ((g 0)), .int x, .ref ao]) (n := 4) (Nat.le_of_ble_eq_true rfl)
  rw [lg_entry_eq]
  generalize (lg_sl ([.ref ((g 0)), .int x, .ref ao]) ++ List.replicate (4 - (lg_sl ([.ref ((g 0)), .int x, .ref ao])).length) Slot.unset).toArray = ls at hl ⊢
  have hl : lv_has ls 4 [(0, .ref ((g 0))), (1, .int x), (2, .ref ao)] := hl
  refine lv_aload_n hx hb dL_size_0 rfl (lv_at hl 2 rfl) ?_
  refine lv_iconst (v := 0) hx hb dL_size_1 (by decide) ?_
  refine lv_aload_n hx hb dL_size_2 rfl (lv_at hl 0 rfl) ?_
  refine lv_iload_n hx hb dL_size_3 rfl (lv_at hl 1 rfl) ?_
  refine vx_calli (vx_runV (As := [.int x]) (rest := [.int 0, .ref ao]) ⟨hx, hb, hml, hown, hts⟩ (c_X5_size l hst E g ln bf z ke hs x) (cwV 1 hts gL_size_X5_size rfl rfl rfl (by decide +kernel) ⟨Nat.le_of_ble_eq_true rfl, Nat.le_of_ble_eq_true rfl⟩) ⟨wSx.blind, (w_recv hK hM.main 0 (by decide) rfl (ci := 5) rfl), fun U hU hW => wSx.go hM hK hI hxe hS (fun q h => Or.inl h) hU hW⟩ rfl rfl hl.1 rfl (lv_room (Nat.le_of_ble_eq_true rfl)) dL_size_4 ⟨Nat.le_of_ble_eq_true rfl, Nat.le_of_ble_eq_true rfl⟩) hS (fun q _ h => Or.inl h) (fun q h => Or.inl h) (fun q _ h => Or.inl h) (fun E9 ce9 q9 uu t H_1 locs_1 ht hvm hpx hbx hz1 hk1 hS hc9 hv9 hf9 => ?_) (fun r_1 uu t H_1 locs_1 ht hvm hw hB hz1 hk1 hS => ?_)
  · rw [ht] at hbx
    have hO : oA cL ao _ H_1 := (hk1 ao hz0 hao).trans hO
    obtain ⟨rfl, hcx, hMx⟩ := hbx
    refine vx_catch (own := RL) (name := exA) hown [] ⟨0, 9, 12, 13⟩ [] (htb.trans rfl) (fun z hz => absurd hz List.not_mem_nil) (by decide) (by decide) (hts (.classLink RL 13 exA) (by decide +kernel)) (va_Nw.use rfl hxc.1) hc9 hv9 hf9 ?_
    refine W.eq (g2 := F0 m 12 ls [.ref q9]) rfl ?_
    refine lv_astore_n (lv' := [(3, .ref q9), (0, .ref ((g 0))), (1, .int x), (2, .ref ao)]) hx hb dL_size_12 rfl hl (by decide) rfl (fun ls hl => ?_)
    refine lv_iconst (v := 1) hx hb dL_size_13 (by decide) ?_
    exact W.iret (v := 1) hx hb hr (fun t ht hW => ⟨⟨_, 1, rfl, rfl, (by dsimp only; rw [ht]; exact Or.inr (⟨rfl, hcx, ⟨_, hO⟩, hMx⟩))⟩, hS.F ht⟩) hS.2.2 dL_size_14
  rw [ht] at hB
  obtain ⟨hc0, hM2⟩ := hB
  have hO : oA cL ao _ H_1 := (hk1 ao hz0 hao).trans hO
  obtain rfl := hw
  refine lv_i2l hx hb dL_size_7 rfl ?_
  refine w_last hx hb hKL hO (Or.inr rfl) hS dL_size_8 (fun H_2 locs_2 hO2 hz2 ho2 hS => ?_)
  have hM3 := hM2.at (A := fun q => q = ao) (fun q _ h => ho2 q h) hne
  refine lv_goto (tgt := 15) hx hb dL_size_9 rfl ?_
  refine lv_iconst (v := 0) hx hb dL_size_15 (by decide) ?_
  exact W.iret (v := 0) hx hb hr (fun t ht hW => ⟨⟨_, 0, rfl, rfl, (by dsimp only; rw [ht]; exact Or.inl ⟨rfl, hc0, hO2, hM3⟩)⟩, hS.F ht⟩) hS.2.2 dL_size_16
set_option maxHeartbeats 4000000 in
set_option maxRecDepth 100000 in
theorem c_L_write (l : Launch) (hst : l.stackTraces = false) (cL cD : ClassId) (ao : Nat) (E : wE) (g : Nat → Nat) (ln : Nat) (bf : Nat → Int32) (z : SS) (ke : Nat) (hs : Nat → SS) (x v : Int32) : Met l yL_write wsL_write ({ frames := 8, cells := 2, slots := 12, locals := 174 }) (va_Pc [.ref ((g 0)), .int x, .int v, .ref ao] (wL E cL cD g ao (fun H => ∃ x, oA cL ao (.long x) H) (MB E g ln bf z ke hs))) (va_Qi (fun (r u : Int32) => r = u) (fun u t => (u = 0 ∧ ((vp_in x z.1 ∧ vp_in v 65536)) ∧ oA cL ao (.long ((z.2.1 x.toNatClampNeg)).toInt64) t.heap ∧ MB E g ln bf (writeZ z x.toNatClampNeg v) (kpK ke) (pushH ke hs z) t.heap) ∨ (u = 1 ∧ (¬ vp_in x z.1) ∧ (∃ x, oA cL ao (.long x) t.heap) ∧ MB E g ln bf z ke hs t.heap) ∨ (u = 2 ∧ (vp_in x z.1 ∧ ¬ vp_in v 65536) ∧ (∃ x, oA cL ao (.long x) t.heap) ∧ MB E g ln bf z ke hs t.heap)) (wA g ao)) 2 12 (wA g ao) := by
  refine w_ofWH (cc := cL_write) (maxL := 5) (ret := some .int) (hh := [(0, 10, 13, 19), (0, 10, 17, 13)]) (by decide) rfl ?_
  intro p e s m args below meth c s₁ B hml hv
  obtain ⟨rfl, hM, ⟨x0, hO⟩, hK, hKL, hI, hne, hxe, hxc⟩ := hv
  have hx := B.exec
  have hb := B.bytes
  have hr := B.returns
  have hts := atoms_spec (ws := wsL_write) B.pre
  have hown : s.vm.findClass RL = some m.cls := findClass_of_methodNamed B.named
  have hlocks := B.notSynchronized
  have htb := vx_table (x := yL_write) B (hts _ List.mem_cons_self)
  have hS : va_S (wA g ao) s.heap s.heap [] := va_S.rf
  have hz0 : ao < s.heap.size := hO.lt
  have hao : ¬ wF 94 g ao := fun ⟨k, hk, e⟩ => hne k hk e.symm
  have hl := lv_entry ([.ref ((g 0)), .int x, .int v, .ref ao]) (n := 5) (Nat.le_of_ble_eq_true rfl)
  rw [lg_entry_eq]
  generalize (lg_sl ([.ref ((g 0)), .int x, .int v, .ref ao]) ++ List.replicate (5 - (lg_sl ([.ref ((g 0)), .int x, .int v, .ref ao])).length) Slot.unset).toArray = ls at hl ⊢
  have hl : lv_has ls 5 [(0, .ref ((g 0))), (1, .int x), (2, .int v), (3, .ref ao)] := hl
  refine lv_aload_n hx hb dL_write_0 rfl (lv_at hl 3 rfl) ?_
  refine lv_iconst (v := 0) hx hb dL_write_1 (by decide) ?_
  refine lv_aload_n hx hb dL_write_2 rfl (lv_at hl 0 rfl) ?_
  refine lv_iload_n hx hb dL_write_3 rfl (lv_at hl 1 rfl) ?_
  refine lv_iload_n hx hb dL_write_4 rfl (lv_at hl 2 rfl) ?_
  refine vx_calli (vx_runV (As := [.int x, .int v]) (rest := [.int 0, .ref ao]) ⟨hx, hb, hml, hown, hts⟩ (c_X5_write l hst E g ln bf z ke hs x v) (cwV 2 hts gL_write_X5_write rfl rfl rfl (by decide +kernel) ⟨Nat.le_of_ble_eq_true rfl, Nat.le_of_ble_eq_true rfl⟩) ⟨wSx.blind, (w_recv hK hM.main 0 (by decide) rfl (ci := 5) rfl), fun U hU hW => wSx.go hM hK hI hxe hS (fun q h => Or.inl h) hU hW⟩ rfl rfl hl.1 rfl (lv_room (Nat.le_of_ble_eq_true rfl)) dL_write_5 ⟨Nat.le_of_ble_eq_true rfl, Nat.le_of_ble_eq_true rfl⟩) hS (fun q _ h => Or.inl h) (fun q h => Or.inl h) (fun q _ h => Or.inl h) (fun E9 ce9 q9 uu t H_1 locs_1 ht hvm hpx hbx hz1 hk1 hS hc9 hv9 hf9 => ?_) (fun r_1 uu t H_1 locs_1 ht hvm hw hB hz1 hk1 hS => ?_)
  · rw [ht] at hbx
    have hO : oA cL ao _ H_1 := (hk1 ao hz0 hao).trans hO
    obtain ⟨⟨rfl, hcx⟩ | ⟨rfl, hcx⟩, hMx⟩ := hbx
    · skip
      refine vx_catch (own := RL) (name := exB) hown [] ⟨0, 10, 13, 19⟩ [⟨0, 10, 17, 13⟩] (htb.trans rfl) (fun z hz => absurd hz List.not_mem_nil) (by decide) (by decide) (hts (.classLink RL 19 exB) (by decide +kernel)) (va_Nw.use rfl hxc.2.1) hc9 hv9 hf9 ?_
      refine W.eq (g2 := F0 m 13 ls [.ref q9]) rfl ?_
      refine lv_astore (lv' := [(4, .ref q9), (0, .ref ((g 0))), (1, .int x), (2, .int v), (3, .ref ao)]) hx hb dL_write_13 hl (by decide) rfl (fun ls hl => ?_)
      refine lv_iconst (v := 1) hx hb dL_write_15 (by decide) ?_
      exact W.iret (v := 1) hx hb hr (fun t ht hW => ⟨⟨_, 1, rfl, rfl, (by dsimp only; rw [ht]; exact Or.inr (Or.inl ⟨rfl, hcx, ⟨_, hO⟩, hMx⟩))⟩, hS.F ht⟩) hS.2.2 dL_write_16
    · skip
      refine vx_catch (own := RL) (name := exA) hown [⟨0, 10, 13, 19⟩] ⟨0, 10, 17, 13⟩ [] (htb.trans rfl) (fun z hz => by obtain rfl := List.mem_singleton.mp hz; exact Or.inr ⟨by decide, _, hts (.classLink RL 19 exB) (by decide +kernel), hxc.2.2.2.1⟩) (by decide) (by decide) (hts (.classLink RL 13 exA) (by decide +kernel)) (va_Nw.use rfl hxc.1) hc9 hv9 hf9 ?_
      refine W.eq (g2 := F0 m 17 ls [.ref q9]) rfl ?_
      refine lv_astore (lv' := [(4, .ref q9), (0, .ref ((g 0))), (1, .int x), (2, .int v), (3, .ref ao)]) hx hb dL_write_17 hl (by decide) rfl (fun ls hl => ?_)
      refine lv_iconst (v := 2) hx hb dL_write_19 (by decide) ?_
      exact W.iret (v := 2) hx hb hr (fun t ht hW => ⟨⟨_, 2, rfl, rfl, (by dsimp only; rw [ht]; exact Or.inr (Or.inr (⟨rfl, hcx, ⟨_, hO⟩, hMx⟩)))⟩, hS.F ht⟩) hS.2.2 dL_write_20
  rw [ht] at hB
  obtain ⟨hc0, hM2⟩ := hB
  have hO : oA cL ao _ H_1 := (hk1 ao hz0 hao).trans hO
  obtain rfl := hw
  refine lv_i2l hx hb dL_write_8 rfl ?_
  refine w_last hx hb hKL hO (Or.inr rfl) hS dL_write_9 (fun H_2 locs_2 hO2 hz2 ho2 hS => ?_)
  have hM3 := hM2.at (A := fun q => q = ao) (fun q _ h => ho2 q h) hne
  refine lv_goto (tgt := 21) hx hb dL_write_10 rfl ?_
  refine lv_iconst (v := 0) hx hb dL_write_21 (by decide) ?_
  exact W.iret (v := 0) hx hb hr (fun t ht hW => ⟨⟨_, 0, rfl, rfl, (by dsimp only; rw [ht]; exact Or.inl ⟨rfl, hc0, hO2, hM3⟩)⟩, hS.F ht⟩) hS.2.2 dL_write_22
set_option maxHeartbeats 4000000 in
set_option maxRecDepth 100000 in
theorem c_L_listen (l : Launch) (hst : l.stackTraces = false) (cL cD : ClassId) (ao : Nat) (E : wE) (g : Nat → Nat) (ln : Nat) (bf : Nat → Int32) (z : SS) (ke : Nat) (hs : Nat → SS) (x : Int32) (bb : Bool) : Met l yL_listen wsL_listen ({ frames := 8, cells := 1, slots := 6, locals := 175 }) (va_Pc [.ref ((g 0)), .int x, .int ((bI bb)), .ref ao] (wL E cL cD g ao (fun H => ∃ x, oA cL ao (.long x) H) (MB E g ln bf z ke hs))) (va_Qi (fun (r u : Int32) => r = u) (fun u t => (u = 0 ∧ (vp_in x 3) ∧ oA cL ao (.long ((bI (z.2.2.2 x.toNatClampNeg).1)).toInt64) t.heap ∧ MB E g ln bf (recvZ z x.toNatClampNeg (bb, (z.2.2.2 x.toNatClampNeg).2)) (kpK ke) (pushH ke hs z) t.heap) ∨ (u = 1 ∧ (¬ vp_in x 3) ∧ (∃ x, oA cL ao (.long x) t.heap) ∧ MB E g ln bf z ke hs t.heap)) (wA g ao)) 1 6 (wA g ao) := by
  refine w_ofWH (cc := cL_listen) (maxL := 5) (ret := some .int) (hh := [(0, 10, 13, 19)]) (by decide) rfl ?_
  intro p e s m args below meth c s₁ B hml hv
  obtain ⟨rfl, hM, ⟨x0, hO⟩, hK, hKL, hI, hne, hxe, hxc⟩ := hv
  have hx := B.exec
  have hb := B.bytes
  have hr := B.returns
  have hts := atoms_spec (ws := wsL_listen) B.pre
  have hown : s.vm.findClass RL = some m.cls := findClass_of_methodNamed B.named
  have hlocks := B.notSynchronized
  have htb := vx_table (x := yL_listen) B (hts _ List.mem_cons_self)
  have hS : va_S (wA g ao) s.heap s.heap [] := va_S.rf
  have hz0 : ao < s.heap.size := hO.lt
  have hao : ¬ wF 94 g ao := fun ⟨k, hk, e⟩ => hne k hk e.symm
  have hl := lv_entry ([.ref ((g 0)), .int x, .int ((bI bb)), .ref ao]) (n := 5) (Nat.le_of_ble_eq_true rfl)
  rw [lg_entry_eq]
  generalize (lg_sl ([.ref ((g 0)), .int x, .int ((bI bb)), .ref ao]) ++ List.replicate (5 - (lg_sl ([.ref ((g 0)), .int x, .int ((bI bb)), .ref ao])).length) Slot.unset).toArray = ls at hl ⊢
  have hl : lv_has ls 5 [(0, .ref ((g 0))), (1, .int x), (2, .int ((bI bb))), (3, .ref ao)] := hl
  refine lv_aload_n hx hb dL_listen_0 rfl (lv_at hl 3 rfl) ?_
  refine lv_iconst (v := 0) hx hb dL_listen_1 (by decide) ?_
  refine lv_aload_n hx hb dL_listen_2 rfl (lv_at hl 0 rfl) ?_
  refine lv_iload_n hx hb dL_listen_3 rfl (lv_at hl 1 rfl) ?_
  refine lv_iload_n hx hb dL_listen_4 rfl (lv_at hl 2 rfl) ?_
  refine vx_calli (vx_runV (As := [.int x, .int ((bI bb))]) (rest := [.int 0, .ref ao]) ⟨hx, hb, hml, hown, hts⟩ (c_X5_listen l hst E g ln bf z ke hs x bb) (cwV 2 hts gL_listen_X5_listen rfl rfl rfl (by decide +kernel) ⟨Nat.le_of_ble_eq_true rfl, Nat.le_of_ble_eq_true rfl⟩) ⟨wSx.blind, (w_recv hK hM.main 0 (by decide) rfl (ci := 5) rfl), fun U hU hW => wSx.go hM hK hI hxe hS (fun q h => Or.inl h) hU hW⟩ rfl rfl hl.1 rfl (lv_room (Nat.le_of_ble_eq_true rfl)) dL_listen_5 ⟨Nat.le_of_ble_eq_true rfl, Nat.le_of_ble_eq_true rfl⟩) hS (fun q _ h => Or.inl h) (fun q h => Or.inl h) (fun q _ h => Or.inl h) (fun E9 ce9 q9 uu t H_1 locs_1 ht hvm hpx hbx hz1 hk1 hS hc9 hv9 hf9 => ?_) (fun r_1 uu t H_1 locs_1 ht hvm hw hB hz1 hk1 hS => ?_)
  · rw [ht] at hbx
    have hO : oA cL ao _ H_1 := (hk1 ao hz0 hao).trans hO
    obtain ⟨⟨rfl, hcx⟩, hMx⟩ := hbx
    refine vx_catch (own := RL) (name := exB) hown [] ⟨0, 10, 13, 19⟩ [] (htb.trans rfl) (fun z hz => absurd hz List.not_mem_nil) (by decide) (by decide) (hts (.classLink RL 19 exB) (by decide +kernel)) (va_Nw.use rfl hxc.2.1) hc9 hv9 hf9 ?_
    refine W.eq (g2 := F0 m 13 ls [.ref q9]) rfl ?_
    refine lv_astore (lv' := [(4, .ref q9), (0, .ref ((g 0))), (1, .int x), (2, .int ((bI bb))), (3, .ref ao)]) hx hb dL_listen_13 hl (by decide) rfl (fun ls hl => ?_)
    refine lv_iconst (v := 1) hx hb dL_listen_15 (by decide) ?_
    exact W.iret (v := 1) hx hb hr (fun t ht hW => ⟨⟨_, 1, rfl, rfl, (by dsimp only; rw [ht]; exact Or.inr (⟨rfl, hcx, ⟨_, hO⟩, hMx⟩))⟩, hS.F ht⟩) hS.2.2 dL_listen_16
  rw [ht] at hB
  obtain ⟨hc0, hM2⟩ := hB
  have hO : oA cL ao _ H_1 := (hk1 ao hz0 hao).trans hO
  obtain rfl := hw
  refine lv_i2l hx hb dL_listen_8 rfl ?_
  refine w_last hx hb hKL hO (Or.inr rfl) hS dL_listen_9 (fun H_2 locs_2 hO2 hz2 ho2 hS => ?_)
  have hM3 := hM2.at (A := fun q => q = ao) (fun q _ h => ho2 q h) hne
  refine lv_goto (tgt := 17) hx hb dL_listen_10 rfl ?_
  refine lv_iconst (v := 0) hx hb dL_listen_17 (by decide) ?_
  exact W.iret (v := 0) hx hb hr (fun t ht hW => ⟨⟨_, 0, rfl, rfl, (by dsimp only; rw [ht]; exact Or.inl ⟨rfl, hc0, hO2, hM3⟩)⟩, hS.F ht⟩) hS.2.2 dL_listen_18
set_option maxHeartbeats 4000000 in
set_option maxRecDepth 100000 in
theorem c_L_forget (l : Launch) (hst : l.stackTraces = false) (cL cD : ClassId) (ao : Nat) (E : wE) (g : Nat → Nat) (ln : Nat) (bf : Nat → Int32) (z : SS) (ke : Nat) (hs : Nat → SS) (x : Int32) : Met l yL_forget wsL_forget ({ frames := 8, cells := 1, slots := 6, locals := 174 }) (va_Pc [.ref ((g 0)), .int x, .ref ao] (wL E cL cD g ao (fun H => ∃ x, oA cL ao (.long x) H) (MB E g ln bf z ke hs))) (va_Qi (fun (r u : Int32) => r = u) (fun u t => (u = 0 ∧ (vp_in x 3) ∧ oA cL ao (.long ((swar (z.2.2.2 x.toNatClampNeg).2.1)).toInt64) t.heap ∧ MB E g ln bf (recvZ z x.toNatClampNeg (fgR (z.2.2.2 x.toNatClampNeg))) (kpK ke) (pushH ke hs z) t.heap) ∨ (u = 1 ∧ (¬ vp_in x 3) ∧ (∃ x, oA cL ao (.long x) t.heap) ∧ MB E g ln bf z ke hs t.heap)) (wA g ao)) 1 6 (wA g ao) := by
  refine w_ofWH (cc := cL_forget) (maxL := 4) (ret := some .int) (hh := [(0, 9, 12, 19)]) (by decide) rfl ?_
  intro p e s m args below meth c s₁ B hml hv
  obtain ⟨rfl, hM, ⟨x0, hO⟩, hK, hKL, hI, hne, hxe, hxc⟩ := hv
  have hx := B.exec
  have hb := B.bytes
  have hr := B.returns
  have hts := atoms_spec (ws := wsL_forget) B.pre
  have hown : s.vm.findClass RL = some m.cls := findClass_of_methodNamed B.named
  have hlocks := B.notSynchronized
  have htb := vx_table (x := yL_forget) B (hts _ List.mem_cons_self)
  have hS : va_S (wA g ao) s.heap s.heap [] := va_S.rf
  have hz0 : ao < s.heap.size := hO.lt
  have hao : ¬ wF 94 g ao := fun ⟨k, hk, e⟩ => hne k hk e.symm
  have hl := lv_entry ([.ref ((g 0)), .int x, .ref ao]) (n := 4) (Nat.le_of_ble_eq_true rfl)
  rw [lg_entry_eq]
  generalize (lg_sl ([.ref ((g 0)), .int x, .ref ao]) ++ List.replicate (4 - (lg_sl ([.ref ((g 0)), .int x, .ref ao])).length) Slot.unset).toArray = ls at hl ⊢
  have hl : lv_has ls 4 [(0, .ref ((g 0))), (1, .int x), (2, .ref ao)] := hl
  refine lv_aload_n hx hb dL_forget_0 rfl (lv_at hl 2 rfl) ?_
  refine lv_iconst (v := 0) hx hb dL_forget_1 (by decide) ?_
  refine lv_aload_n hx hb dL_forget_2 rfl (lv_at hl 0 rfl) ?_
  refine lv_iload_n hx hb dL_forget_3 rfl (lv_at hl 1 rfl) ?_
  refine vx_calli (vx_runV (As := [.int x]) (rest := [.int 0, .ref ao]) ⟨hx, hb, hml, hown, hts⟩ (c_X5_forget l hst E g ln bf z ke hs x) (cwV 1 hts gL_forget_X5_forget rfl rfl rfl (by decide +kernel) ⟨Nat.le_of_ble_eq_true rfl, Nat.le_of_ble_eq_true rfl⟩) ⟨wSx.blind, (w_recv hK hM.main 0 (by decide) rfl (ci := 5) rfl), fun U hU hW => wSx.go hM hK hI hxe hS (fun q h => Or.inl h) hU hW⟩ rfl rfl hl.1 rfl (lv_room (Nat.le_of_ble_eq_true rfl)) dL_forget_4 ⟨Nat.le_of_ble_eq_true rfl, Nat.le_of_ble_eq_true rfl⟩) hS (fun q _ h => Or.inl h) (fun q h => Or.inl h) (fun q _ h => Or.inl h) (fun E9 ce9 q9 uu t H_1 locs_1 ht hvm hpx hbx hz1 hk1 hS hc9 hv9 hf9 => ?_) (fun r_1 uu t H_1 locs_1 ht hvm hw hB hz1 hk1 hS => ?_)
  · rw [ht] at hbx
    have hO : oA cL ao _ H_1 := (hk1 ao hz0 hao).trans hO
    obtain ⟨⟨rfl, hcx⟩, hMx⟩ := hbx
    refine vx_catch (own := RL) (name := exB) hown [] ⟨0, 9, 12, 19⟩ [] (htb.trans rfl) (fun z hz => absurd hz List.not_mem_nil) (by decide) (by decide) (hts (.classLink RL 19 exB) (by decide +kernel)) (va_Nw.use rfl hxc.2.1) hc9 hv9 hf9 ?_
    refine W.eq (g2 := F0 m 12 ls [.ref q9]) rfl ?_
    refine lv_astore_n (lv' := [(3, .ref q9), (0, .ref ((g 0))), (1, .int x), (2, .ref ao)]) hx hb dL_forget_12 rfl hl (by decide) rfl (fun ls hl => ?_)
    refine lv_iconst (v := 1) hx hb dL_forget_13 (by decide) ?_
    exact W.iret (v := 1) hx hb hr (fun t ht hW => ⟨⟨_, 1, rfl, rfl, (by dsimp only; rw [ht]; exact Or.inr (⟨rfl, hcx, ⟨_, hO⟩, hMx⟩))⟩, hS.F ht⟩) hS.2.2 dL_forget_14
  rw [ht] at hB
  obtain ⟨hc0, hM2⟩ := hB
  have hO : oA cL ao _ H_1 := (hk1 ao hz0 hao).trans hO
  obtain rfl := hw
  refine lv_i2l hx hb dL_forget_7 rfl ?_
  refine w_last hx hb hKL hO (Or.inr rfl) hS dL_forget_8 (fun H_2 locs_2 hO2 hz2 ho2 hS => ?_)
  have hM3 := hM2.at (A := fun q => q = ao) (fun q _ h => ho2 q h) hne
  refine lv_goto (tgt := 15) hx hb dL_forget_9 rfl ?_
  refine lv_iconst (v := 0) hx hb dL_forget_15 (by decide) ?_
  exact W.iret (v := 0) hx hb hr (fun t ht hW => ⟨⟨_, 0, rfl, rfl, (by dsimp only; rw [ht]; exact Or.inl ⟨rfl, hc0, hO2, hM3⟩)⟩, hS.F ht⟩) hS.2.2 dL_forget_16
set_option maxHeartbeats 4000000 in
set_option maxRecDepth 100000 in
theorem c_L_send (l : Launch) (hst : l.stackTraces = false) (cL cD : ClassId) (ao : Nat) (E : wE) (g : Nat → Nat) (ln : Nat) (bf : Nat → Int32) (z : SS) (ke : Nat) (hs : Nat → SS) (x : Int32) : Met l yL_send wsL_send ({ frames := 8, cells := 1, slots := 6, locals := 172 }) (va_Pc [.ref ((g 0)), .int x, .ref ao] (wL E cL cD g ao (fun H => ∃ x, oA cL ao (.long x) H) (MB E g ln bf z ke hs))) (va_Qi (fun (r u : Int32) => r = u) (fun u t => (u = 0 ∧ (vp_in x 10000) ∧ oA cL ao (.long ((sumR (mixS z.1 z.2.1 x.toNatClampNeg) z.2.2.2 3)).toInt64) t.heap ∧ MB E g ln bf (sendZ z x.toNatClampNeg) (kpK ke) (pushH ke hs z) t.heap) ∨ (u = 1 ∧ (¬ vp_in x 10000) ∧ (∃ x, oA cL ao (.long x) t.heap) ∧ MB E g ln bf z ke hs t.heap)) (wA g ao)) 1 6 (wA g ao) := by
  refine w_ofWH (cc := cL_send) (maxL := 4) (ret := some .int) (hh := [(0, 9, 12, 13)]) (by decide) rfl ?_
  intro p e s m args below meth c s₁ B hml hv
  obtain ⟨rfl, hM, ⟨x0, hO⟩, hK, hKL, hI, hne, hxe, hxc⟩ := hv
  have hx := B.exec
  have hb := B.bytes
  have hr := B.returns
  have hts := atoms_spec (ws := wsL_send) B.pre
  have hown : s.vm.findClass RL = some m.cls := findClass_of_methodNamed B.named
  have hlocks := B.notSynchronized
  have htb := vx_table (x := yL_send) B (hts _ List.mem_cons_self)
  have hS : va_S (wA g ao) s.heap s.heap [] := va_S.rf
  have hz0 : ao < s.heap.size := hO.lt
  have hao : ¬ wF 94 g ao := fun ⟨k, hk, e⟩ => hne k hk e.symm
  have hl := lv_entry ([.ref ((g 0)), .int x, .ref ao]) (n := 4) (Nat.le_of_ble_eq_true rfl)
  rw [lg_entry_eq]
  generalize (lg_sl ([.ref ((g 0)), .int x, .ref ao]) ++ List.replicate (4 - (lg_sl ([.ref ((g 0)), .int x, .ref ao])).length) Slot.unset).toArray = ls at hl ⊢
  have hl : lv_has ls 4 [(0, .ref ((g 0))), (1, .int x), (2, .ref ao)] := hl
  refine lv_aload_n hx hb dL_send_0 rfl (lv_at hl 2 rfl) ?_
  refine lv_iconst (v := 0) hx hb dL_send_1 (by decide) ?_
  refine lv_aload_n hx hb dL_send_2 rfl (lv_at hl 0 rfl) ?_
  refine lv_iload_n hx hb dL_send_3 rfl (lv_at hl 1 rfl) ?_
  refine vx_calli (vx_runV (As := [.int x]) (rest := [.int 0, .ref ao]) ⟨hx, hb, hml, hown, hts⟩ (c_X5_send l hst E g ln bf z ke hs x) (cwV 1 hts gL_send_X5_send rfl rfl rfl (by decide +kernel) ⟨Nat.le_of_ble_eq_true rfl, Nat.le_of_ble_eq_true rfl⟩) ⟨wSx.blind, (w_recv hK hM.main 0 (by decide) rfl (ci := 5) rfl), fun U hU hW => wSx.go hM hK hI hxe hS (fun q h => Or.inl h) hU hW⟩ rfl rfl hl.1 rfl (lv_room (Nat.le_of_ble_eq_true rfl)) dL_send_4 ⟨Nat.le_of_ble_eq_true rfl, Nat.le_of_ble_eq_true rfl⟩) hS (fun q _ h => Or.inl h) (fun q h => Or.inl h) (fun q _ h => Or.inl h) (fun E9 ce9 q9 uu t H_1 locs_1 ht hvm hpx hbx hz1 hk1 hS hc9 hv9 hf9 => ?_) (fun r_1 uu t H_1 locs_1 ht hvm hw hB hz1 hk1 hS => ?_)
  · rw [ht] at hbx
    have hO : oA cL ao _ H_1 := (hk1 ao hz0 hao).trans hO
    obtain ⟨⟨rfl, hcx⟩, hMx⟩ := hbx
    refine vx_catch (own := RL) (name := exA) hown [] ⟨0, 9, 12, 13⟩ [] (htb.trans rfl) (fun z hz => absurd hz List.not_mem_nil) (by decide) (by decide) (hts (.classLink RL 13 exA) (by decide +kernel)) (va_Nw.use rfl hxc.1) hc9 hv9 hf9 ?_
    refine W.eq (g2 := F0 m 12 ls [.ref q9]) rfl ?_
    refine lv_astore_n (lv' := [(3, .ref q9), (0, .ref ((g 0))), (1, .int x), (2, .ref ao)]) hx hb dL_send_12 rfl hl (by decide) rfl (fun ls hl => ?_)
    refine lv_iconst (v := 1) hx hb dL_send_13 (by decide) ?_
    exact W.iret (v := 1) hx hb hr (fun t ht hW => ⟨⟨_, 1, rfl, rfl, (by dsimp only; rw [ht]; exact Or.inr (⟨rfl, hcx, ⟨_, hO⟩, hMx⟩))⟩, hS.F ht⟩) hS.2.2 dL_send_14
  rw [ht] at hB
  obtain ⟨hc0, hM2⟩ := hB
  have hO : oA cL ao _ H_1 := (hk1 ao hz0 hao).trans hO
  obtain rfl := hw
  refine lv_i2l hx hb dL_send_7 rfl ?_
  refine w_last hx hb hKL hO (Or.inr rfl) hS dL_send_8 (fun H_2 locs_2 hO2 hz2 ho2 hS => ?_)
  have hM3 := hM2.at (A := fun q => q = ao) (fun q _ h => ho2 q h) hne
  refine lv_goto (tgt := 15) hx hb dL_send_9 rfl ?_
  refine lv_iconst (v := 0) hx hb dL_send_15 (by decide) ?_
  exact W.iret (v := 0) hx hb hr (fun t ht hW => ⟨⟨_, 0, rfl, rfl, (by dsimp only; rw [ht]; exact Or.inl ⟨rfl, hc0, hO2, hM3⟩)⟩, hS.F ht⟩) hS.2.2 dL_send_16
set_option maxHeartbeats 4000000 in
set_option maxRecDepth 100000 in
theorem c_L_eliminate (l : Launch) (hst : l.stackTraces = false) (cL cD : ClassId) (ao : Nat) (E : wE) (g : Nat → Nat) (ln : Nat) (bf : Nat → Int32) (z : SS) (ke : Nat) (hs : Nat → SS) (x : Int32) : Met l yL_eliminate wsL_eliminate ({ frames := 8, cells := 1, slots := 6, locals := 173 }) (va_Pc [.ref ((g 0)), .int x, .ref ao] (wL E cL cD g ao (fun H => ∃ x, oA cL ao (.long x) H) (MB E g ln bf z ke hs))) (va_Qi (fun (r u : Int32) => r = u) (fun u t => (u = 0 ∧ (vp_in x 3) ∧ oA cL ao (.long (((findS (z.2.2.2 x.toNatClampNeg).2).2.2.2.2)).toInt64) t.heap ∧ MB E g ln bf (recvZ z x.toNatClampNeg (elimR (z.2.2.2 x.toNatClampNeg))) (kpK ke) (pushH ke hs z) t.heap) ∨ (u = 1 ∧ (¬ vp_in x 3) ∧ (∃ x, oA cL ao (.long x) t.heap) ∧ MB E g ln bf z ke hs t.heap)) (wA g ao)) 1 6 (wA g ao) := by
  refine w_ofWH (cc := cL_eliminate) (maxL := 4) (ret := some .int) (hh := [(0, 9, 12, 19)]) (by decide) rfl ?_
  intro p e s m args below meth c s₁ B hml hv
  obtain ⟨rfl, hM, ⟨x0, hO⟩, hK, hKL, hI, hne, hxe, hxc⟩ := hv
  have hx := B.exec
  have hb := B.bytes
  have hr := B.returns
  have hts := atoms_spec (ws := wsL_eliminate) B.pre
  have hown : s.vm.findClass RL = some m.cls := findClass_of_methodNamed B.named
  have hlocks := B.notSynchronized
  have htb := vx_table (x := yL_eliminate) B (hts _ List.mem_cons_self)
  have hS : va_S (wA g ao) s.heap s.heap [] := va_S.rf
  have hz0 : ao < s.heap.size := hO.lt
  have hao : ¬ wF 94 g ao := fun ⟨k, hk, e⟩ => hne k hk e.symm
  have hl := lv_entry ([.ref ((g 0)), .int x, .ref ao]) (n := 4) (Nat.le_of_ble_eq_true rfl)
  rw [lg_entry_eq]
  generalize (lg_sl ([.ref ((g 0)), .int x, .ref ao]) ++ List.replicate (4 - (lg_sl ([.ref ((g 0)), .int x, .ref ao])).length) Slot.unset).toArray = ls at hl ⊢
  have hl : lv_has ls 4 [(0, .ref ((g 0))), (1, .int x), (2, .ref ao)] := hl
  refine lv_aload_n hx hb dL_eliminate_0 rfl (lv_at hl 2 rfl) ?_
  refine lv_iconst (v := 0) hx hb dL_eliminate_1 (by decide) ?_
  refine lv_aload_n hx hb dL_eliminate_2 rfl (lv_at hl 0 rfl) ?_
  refine lv_iload_n hx hb dL_eliminate_3 rfl (lv_at hl 1 rfl) ?_
  refine vx_calli (vx_runV (As := [.int x]) (rest := [.int 0, .ref ao]) ⟨hx, hb, hml, hown, hts⟩ (c_X5_eliminate l hst E g ln bf z ke hs x) (cwV 1 hts gL_eliminate_X5_eliminate rfl rfl rfl (by decide +kernel) ⟨Nat.le_of_ble_eq_true rfl, Nat.le_of_ble_eq_true rfl⟩) ⟨wSx.blind, (w_recv hK hM.main 0 (by decide) rfl (ci := 5) rfl), fun U hU hW => wSx.go hM hK hI hxe hS (fun q h => Or.inl h) hU hW⟩ rfl rfl hl.1 rfl (lv_room (Nat.le_of_ble_eq_true rfl)) dL_eliminate_4 ⟨Nat.le_of_ble_eq_true rfl, Nat.le_of_ble_eq_true rfl⟩) hS (fun q _ h => Or.inl h) (fun q h => Or.inl h) (fun q _ h => Or.inl h) (fun E9 ce9 q9 uu t H_1 locs_1 ht hvm hpx hbx hz1 hk1 hS hc9 hv9 hf9 => ?_) (fun r_1 uu t H_1 locs_1 ht hvm hw hB hz1 hk1 hS => ?_)
  · rw [ht] at hbx
    have hO : oA cL ao _ H_1 := (hk1 ao hz0 hao).trans hO
    obtain ⟨⟨rfl, hcx⟩, hMx⟩ := hbx
    refine vx_catch (own := RL) (name := exB) hown [] ⟨0, 9, 12, 19⟩ [] (htb.trans rfl) (fun z hz => absurd hz List.not_mem_nil) (by decide) (by decide) (hts (.classLink RL 19 exB) (by decide +kernel)) (va_Nw.use rfl hxc.2.1) hc9 hv9 hf9 ?_
    refine W.eq (g2 := F0 m 12 ls [.ref q9]) rfl ?_
    refine lv_astore_n (lv' := [(3, .ref q9), (0, .ref ((g 0))), (1, .int x), (2, .ref ao)]) hx hb dL_eliminate_12 rfl hl (by decide) rfl (fun ls hl => ?_)
    refine lv_iconst (v := 1) hx hb dL_eliminate_13 (by decide) ?_
    exact W.iret (v := 1) hx hb hr (fun t ht hW => ⟨⟨_, 1, rfl, rfl, (by dsimp only; rw [ht]; exact Or.inr (⟨rfl, hcx, ⟨_, hO⟩, hMx⟩))⟩, hS.F ht⟩) hS.2.2 dL_eliminate_14
  rw [ht] at hB
  obtain ⟨hc0, hM2⟩ := hB
  have hO : oA cL ao _ H_1 := (hk1 ao hz0 hao).trans hO
  obtain rfl := hw
  refine lv_i2l hx hb dL_eliminate_7 rfl ?_
  refine w_last hx hb hKL hO (Or.inr rfl) hS dL_eliminate_8 (fun H_2 locs_2 hO2 hz2 ho2 hS => ?_)
  have hM3 := hM2.at (A := fun q => q = ao) (fun q _ h => ho2 q h) hne
  refine lv_goto (tgt := 15) hx hb dL_eliminate_9 rfl ?_
  refine lv_iconst (v := 0) hx hb dL_eliminate_15 (by decide) ?_
  exact W.iret (v := 0) hx hb hr (fun t ht hW => ⟨⟨_, 0, rfl, rfl, (by dsimp only; rw [ht]; exact Or.inl ⟨rfl, hc0, hO2, hM3⟩)⟩, hS.F ht⟩) hS.2.2 dL_eliminate_16
set_option maxHeartbeats 4000000 in
set_option maxRecDepth 100000 in
theorem c_L_append (l : Launch) (hst : l.stackTraces = false) (cL cD : ClassId) (ao : Nat) (E : wE) (g : Nat → Nat) (ln : Nat) (bf : Nat → Int32) (z : SS) (ke : Nat) (hs : Nat → SS) (x : Int32) : Met l yL_append wsL_append ({ frames := 7, cells := 1, slots := 6, locals := 111 }) (va_Pc [.ref ((g 0)), .int x, .ref ao] (wL E cL cD g ao (fun H => ∃ x, oA cL ao (.long x) H) (MB E g ln bf z ke hs))) (va_Qi (fun (r u : Int32) => r = u) (fun u t => (u = 0 ∧ (((33 ≤ x ∧ x ≤ 126) ∧ ln < 60)) ∧ oA cL ao (.long ((nI (ln + 1))).toInt64) t.heap ∧ MB E g (ln + 1) (upd bf ln x) z ke hs t.heap) ∨ (u = 1 ∧ (¬ (33 ≤ x ∧ x ≤ 126)) ∧ (∃ x, oA cL ao (.long x) t.heap) ∧ MB E g ln bf z ke hs t.heap) ∨ (u = 2 ∧ ((33 ≤ x ∧ x ≤ 126) ∧ ¬ ln < 60) ∧ (∃ x, oA cL ao (.long x) t.heap) ∧ MB E g ln bf z ke hs t.heap)) (wA g ao)) 1 6 (wA g ao) := by
  refine w_ofWH (cc := cL_append) (maxL := 4) (ret := some .int) (hh := [(0, 9, 12, 13), (0, 9, 15, 37)]) (by decide) rfl ?_
  intro p e s m args below meth c s₁ B hml hv
  obtain ⟨rfl, hM, ⟨x0, hO⟩, hK, hKL, hI, hne, hxe, hxc⟩ := hv
  have hx := B.exec
  have hb := B.bytes
  have hr := B.returns
  have hts := atoms_spec (ws := wsL_append) B.pre
  have hown : s.vm.findClass RL = some m.cls := findClass_of_methodNamed B.named
  have hlocks := B.notSynchronized
  have htb := vx_table (x := yL_append) B (hts _ List.mem_cons_self)
  have hS : va_S (wA g ao) s.heap s.heap [] := va_S.rf
  have hz0 : ao < s.heap.size := hO.lt
  have hao : ¬ wF 94 g ao := fun ⟨k, hk, e⟩ => hne k hk e.symm
  have hl := lv_entry ([.ref ((g 0)), .int x, .ref ao]) (n := 4) (Nat.le_of_ble_eq_true rfl)
  rw [lg_entry_eq]
  generalize (lg_sl ([.ref ((g 0)), .int x, .ref ao]) ++ List.replicate (4 - (lg_sl ([.ref ((g 0)), .int x, .ref ao])).length) Slot.unset).toArray = ls at hl ⊢
  have hl : lv_has ls 4 [(0, .ref ((g 0))), (1, .int x), (2, .ref ao)] := hl
  refine lv_aload_n hx hb dL_append_0 rfl (lv_at hl 2 rfl) ?_
  refine lv_iconst (v := 0) hx hb dL_append_1 (by decide) ?_
  refine lv_aload_n hx hb dL_append_2 rfl (lv_at hl 0 rfl) ?_
  refine lv_iload_n hx hb dL_append_3 rfl (lv_at hl 1 rfl) ?_
  refine vx_calli (vx_runV (As := [.int x]) (rest := [.int 0, .ref ao]) ⟨hx, hb, hml, hown, hts⟩ (c_X5_append l hst E g ln bf z ke hs x) (cwV 1 hts gL_append_X5_append rfl rfl rfl (by decide +kernel) ⟨Nat.le_of_ble_eq_true rfl, Nat.le_of_ble_eq_true rfl⟩) ⟨wSx.blind, (w_recv hK hM.main 0 (by decide) rfl (ci := 5) rfl), fun U hU hW => wSx.go hM hK hI hxe hS (fun q h => Or.inl h) hU hW⟩ rfl rfl hl.1 rfl (lv_room (Nat.le_of_ble_eq_true rfl)) dL_append_4 ⟨Nat.le_of_ble_eq_true rfl, Nat.le_of_ble_eq_true rfl⟩) hS (fun q _ h => Or.inl h) (fun q h => Or.inl h) (fun q _ h => Or.inl h) (fun E9 ce9 q9 uu t H_1 locs_1 ht hvm hpx hbx hz1 hk1 hS hc9 hv9 hf9 => ?_) (fun r_1 uu t H_1 locs_1 ht hvm hw hB hz1 hk1 hS => ?_)
  · rw [ht] at hbx
    have hO : oA cL ao _ H_1 := (hk1 ao hz0 hao).trans hO
    obtain ⟨⟨rfl, hcx⟩ | ⟨rfl, hcx⟩, hMx⟩ := hbx
    · skip
      refine vx_catch (own := RL) (name := exA) hown [] ⟨0, 9, 12, 13⟩ [⟨0, 9, 15, 37⟩] (htb.trans rfl) (fun z hz => absurd hz List.not_mem_nil) (by decide) (by decide) (hts (.classLink RL 13 exA) (by decide +kernel)) (va_Nw.use rfl hxc.1) hc9 hv9 hf9 ?_
      refine W.eq (g2 := F0 m 12 ls [.ref q9]) rfl ?_
      refine lv_astore_n (lv' := [(3, .ref q9), (0, .ref ((g 0))), (1, .int x), (2, .ref ao)]) hx hb dL_append_12 rfl hl (by decide) rfl (fun ls hl => ?_)
      refine lv_iconst (v := 1) hx hb dL_append_13 (by decide) ?_
      exact W.iret (v := 1) hx hb hr (fun t ht hW => ⟨⟨_, 1, rfl, rfl, (by dsimp only; rw [ht]; exact Or.inr (Or.inl ⟨rfl, hcx, ⟨_, hO⟩, hMx⟩))⟩, hS.F ht⟩) hS.2.2 dL_append_14
    · skip
      refine vx_catch (own := RL) (name := exS) hown [⟨0, 9, 12, 13⟩] ⟨0, 9, 15, 37⟩ [] (htb.trans rfl) (fun z hz => by obtain rfl := List.mem_singleton.mp hz; exact Or.inr ⟨by decide, _, hts (.classLink RL 13 exA) (by decide +kernel), hxc.2.2.2.2⟩) (by decide) (by decide) (hts (.classLink RL 37 exS) (by decide +kernel)) (va_Nw.use rfl hxc.2.2.1) hc9 hv9 hf9 ?_
      refine W.eq (g2 := F0 m 15 ls [.ref q9]) rfl ?_
      refine lv_astore_n (lv' := [(3, .ref q9), (0, .ref ((g 0))), (1, .int x), (2, .ref ao)]) hx hb dL_append_15 rfl hl (by decide) rfl (fun ls hl => ?_)
      refine lv_iconst (v := 2) hx hb dL_append_16 (by decide) ?_
      exact W.iret (v := 2) hx hb hr (fun t ht hW => ⟨⟨_, 2, rfl, rfl, (by dsimp only; rw [ht]; exact Or.inr (Or.inr (⟨rfl, hcx, ⟨_, hO⟩, hMx⟩)))⟩, hS.F ht⟩) hS.2.2 dL_append_17
  rw [ht] at hB
  obtain ⟨hc0, hM2⟩ := hB
  have hO : oA cL ao _ H_1 := (hk1 ao hz0 hao).trans hO
  obtain rfl := hw
  refine lv_i2l hx hb dL_append_7 rfl ?_
  refine w_last hx hb hKL hO (Or.inr rfl) hS dL_append_8 (fun H_2 locs_2 hO2 hz2 ho2 hS => ?_)
  have hM3 := hM2.at (A := fun q => q = ao) (fun q _ h => ho2 q h) hne
  refine lv_goto (tgt := 18) hx hb dL_append_9 rfl ?_
  refine lv_iconst (v := 0) hx hb dL_append_18 (by decide) ?_
  exact W.iret (v := 0) hx hb hr (fun t ht hW => ⟨⟨_, 0, rfl, rfl, (by dsimp only; rw [ht]; exact Or.inl ⟨rfl, hc0, hO2, hM3⟩)⟩, hS.F ht⟩) hS.2.2 dL_append_19
set_option maxHeartbeats 4000000 in
set_option maxRecDepth 100000 in
theorem c_L_sendAll (l : Launch) (hst : l.stackTraces = false) (cL cD : ClassId) (ao : Nat) (E : wE) (g : Nat → Nat) (ln : Nat) (bf : Nat → Int32) (z : SS) (ke : Nat) (hs : Nat → SS) (cd : Nat → Nat) (hcs : ∀ j, j < ln → cd j ≤ 126) (hbf : ∀ j, j < ln → bf j = nI (cd j)) : Met l yL_sendAll wsL_sendAll ({ frames := 8, cells := 1, slots := 6, locals := 196 }) (va_Pc [.ref ((g 0)), .ref ao] (wL E cL cD g ao (fun H => ∃ x, oA cL ao (.long x) H) (MB E g ln bf z ke hs))) (va_Qi (fun (r u : Int32) => r = u) (fun u t => (u = 0 ∧ (ctS cd ln = true) ∧ oA cL ao (.long ((nI (saZ cd ln z).1)).toInt64) t.heap ∧ MB E g 0 bf (saZ cd ln z).2.2 (kpK ke) (pushH ke hs z) t.heap) ∨ (u = 1 ∧ (¬ ctS cd ln = true) ∧ (∃ x, oA cL ao (.long x) t.heap) ∧ MB E g ln bf z ke hs t.heap)) (wA g ao)) 1 6 (wA g ao) := by
  refine w_ofWH (cc := cL_sendAll) (maxL := 3) (ret := some .int) (hh := [(0, 8, 11, 13)]) (by decide) rfl ?_
  intro p e s m args below meth c s₁ B hml hv
  obtain ⟨rfl, hM, ⟨x0, hO⟩, hK, hKL, hI, hne, hxe, hxc⟩ := hv
  have hx := B.exec
  have hb := B.bytes
  have hr := B.returns
  have hts := atoms_spec (ws := wsL_sendAll) B.pre
  have hown : s.vm.findClass RL = some m.cls := findClass_of_methodNamed B.named
  have hlocks := B.notSynchronized
  have htb := vx_table (x := yL_sendAll) B (hts _ List.mem_cons_self)
  have hS : va_S (wA g ao) s.heap s.heap [] := va_S.rf
  have hz0 : ao < s.heap.size := hO.lt
  have hao : ¬ wF 94 g ao := fun ⟨k, hk, e⟩ => hne k hk e.symm
  have hl := lv_entry ([.ref ((g 0)), .ref ao]) (n := 3) (Nat.le_of_ble_eq_true rfl)
  rw [lg_entry_eq]
  generalize (lg_sl ([.ref ((g 0)), .ref ao]) ++ List.replicate (3 - (lg_sl ([.ref ((g 0)), .ref ao])).length) Slot.unset).toArray = ls at hl ⊢
  have hl : lv_has ls 3 [(0, .ref ((g 0))), (1, .ref ao)] := hl
  refine lv_aload_n hx hb dL_sendAll_0 rfl (lv_at hl 1 rfl) ?_
  refine lv_iconst (v := 0) hx hb dL_sendAll_1 (by decide) ?_
  refine lv_aload_n hx hb dL_sendAll_2 rfl (lv_at hl 0 rfl) ?_
  refine vx_calli (vx_runV (As := []) (rest := [.int 0, .ref ao]) ⟨hx, hb, hml, hown, hts⟩ (c_X5_sendAll l hst E g ln bf z ke hs cd hcs hbf) (cwV 0 hts gL_sendAll_X5_sendAll rfl rfl rfl (by decide +kernel) ⟨Nat.le_of_ble_eq_true rfl, Nat.le_of_ble_eq_true rfl⟩) ⟨wSx.blind, (w_recv hK hM.main 0 (by decide) rfl (ci := 5) rfl), fun U hU hW => wSx.go hM hK hI hxe hS (fun q h => Or.inl h) hU hW⟩ rfl rfl hl.1 rfl (lv_room (Nat.le_of_ble_eq_true rfl)) dL_sendAll_3 ⟨Nat.le_of_ble_eq_true rfl, Nat.le_of_ble_eq_true rfl⟩) hS (fun q _ h => Or.inl h) (fun q h => Or.inl h) (fun q _ h => Or.inl h) (fun E9 ce9 q9 uu t H_1 locs_1 ht hvm hpx hbx hz1 hk1 hS hc9 hv9 hf9 => ?_) (fun r_1 uu t H_1 locs_1 ht hvm hw hB hz1 hk1 hS => ?_)
  · rw [ht] at hbx
    have hO : oA cL ao _ H_1 := (hk1 ao hz0 hao).trans hO
    obtain ⟨rfl, hcx, hMx⟩ := hbx
    refine vx_catch (own := RL) (name := exA) hown [] ⟨0, 8, 11, 13⟩ [] (htb.trans rfl) (fun z hz => absurd hz List.not_mem_nil) (by decide) (by decide) (hts (.classLink RL 13 exA) (by decide +kernel)) (va_Nw.use rfl hxc.1) hc9 hv9 hf9 ?_
    refine W.eq (g2 := F0 m 11 ls [.ref q9]) rfl ?_
    refine lv_astore_n (lv' := [(2, .ref q9), (0, .ref ((g 0))), (1, .ref ao)]) hx hb dL_sendAll_11 rfl hl (by decide) rfl (fun ls hl => ?_)
    refine lv_iconst (v := 1) hx hb dL_sendAll_12 (by decide) ?_
    exact W.iret (v := 1) hx hb hr (fun t ht hW => ⟨⟨_, 1, rfl, rfl, (by dsimp only; rw [ht]; exact Or.inr (⟨rfl, hcx, ⟨_, hO⟩, hMx⟩))⟩, hS.F ht⟩) hS.2.2 dL_sendAll_13
  rw [ht] at hB
  obtain ⟨hc0, hM2⟩ := hB
  have hO : oA cL ao _ H_1 := (hk1 ao hz0 hao).trans hO
  obtain rfl := hw
  refine lv_i2l hx hb dL_sendAll_6 rfl ?_
  refine w_last hx hb hKL hO (Or.inr rfl) hS dL_sendAll_7 (fun H_2 locs_2 hO2 hz2 ho2 hS => ?_)
  have hM3 := hM2.at (A := fun q => q = ao) (fun q _ h => ho2 q h) hne
  refine lv_goto (tgt := 14) hx hb dL_sendAll_8 rfl ?_
  refine lv_iconst (v := 0) hx hb dL_sendAll_14 (by decide) ?_
  exact W.iret (v := 0) hx hb hr (fun t ht hW => ⟨⟨_, 0, rfl, rfl, (by dsimp only; rw [ht]; exact Or.inl ⟨rfl, hc0, hO2, hM3⟩)⟩, hS.F ht⟩) hS.2.2 dL_sendAll_15
set_option maxHeartbeats 4000000 in
set_option maxRecDepth 100000 in
theorem c_L_undo (l : Launch) (hst : l.stackTraces = false) (cL cD : ClassId) (ao : Nat) (E : wE) (g : Nat → Nat) (ln : Nat) (bf : Nat → Int32) (z : SS) (ke : Nat) (hs : Nat → SS) : Met l yL_undo wsL_undo ({ frames := 7, cells := 1, slots := 6, locals := 170 }) (va_Pc [.ref ((g 0)), .ref ao] (wL E cL cD g ao (fun H => ∃ x, oA cL ao (.long x) H) (MB E g ln bf z ke hs))) (va_Qi (fun (r u : Int32) => r = u) (fun u t => (u = 0 ∧ (0 < ke) ∧ oA cL ao (.long ((nI (ke - 1))).toInt64) t.heap ∧ MB E g ln bf (hs (ke - 1)) (ke - 1) hs t.heap) ∨ (u = 1 ∧ (¬ 0 < ke) ∧ (∃ x, oA cL ao (.long x) t.heap) ∧ MB E g ln bf z ke hs t.heap)) (wA g ao)) 1 6 (wA g ao) := by
  refine w_ofWH (cc := cL_undo) (maxL := 3) (ret := some .int) (hh := [(0, 8, 11, 37)]) (by decide) rfl ?_
  intro p e s m args below meth c s₁ B hml hv
  obtain ⟨rfl, hM, ⟨x0, hO⟩, hK, hKL, hI, hne, hxe, hxc⟩ := hv
  have hx := B.exec
  have hb := B.bytes
  have hr := B.returns
  have hts := atoms_spec (ws := wsL_undo) B.pre
  have hown : s.vm.findClass RL = some m.cls := findClass_of_methodNamed B.named
  have hlocks := B.notSynchronized
  have htb := vx_table (x := yL_undo) B (hts _ List.mem_cons_self)
  have hS : va_S (wA g ao) s.heap s.heap [] := va_S.rf
  have hz0 : ao < s.heap.size := hO.lt
  have hao : ¬ wF 94 g ao := fun ⟨k, hk, e⟩ => hne k hk e.symm
  have hl := lv_entry ([.ref ((g 0)), .ref ao]) (n := 3) (Nat.le_of_ble_eq_true rfl)
  rw [lg_entry_eq]
  generalize (lg_sl ([.ref ((g 0)), .ref ao]) ++ List.replicate (3 - (lg_sl ([.ref ((g 0)), .ref ao])).length) Slot.unset).toArray = ls at hl ⊢
  have hl : lv_has ls 3 [(0, .ref ((g 0))), (1, .ref ao)] := hl
  refine lv_aload_n hx hb dL_undo_0 rfl (lv_at hl 1 rfl) ?_
  refine lv_iconst (v := 0) hx hb dL_undo_1 (by decide) ?_
  refine lv_aload_n hx hb dL_undo_2 rfl (lv_at hl 0 rfl) ?_
  refine vx_calli (vx_runV (As := []) (rest := [.int 0, .ref ao]) ⟨hx, hb, hml, hown, hts⟩ (c_X5_undo l hst E g ln bf z ke hs) (cwV 0 hts gL_undo_X5_undo rfl rfl rfl (by decide +kernel) ⟨Nat.le_of_ble_eq_true rfl, Nat.le_of_ble_eq_true rfl⟩) ⟨wSx.blind, (w_recv hK hM.main 0 (by decide) rfl (ci := 5) rfl), fun U hU hW => wSx.go hM hK hI hxe hS (fun q h => Or.inl h) hU hW⟩ rfl rfl hl.1 rfl (lv_room (Nat.le_of_ble_eq_true rfl)) dL_undo_3 ⟨Nat.le_of_ble_eq_true rfl, Nat.le_of_ble_eq_true rfl⟩) hS (fun q _ h => Or.inl h) (fun q h => Or.inl h) (fun q _ h => Or.inl h) (fun E9 ce9 q9 uu t H_1 locs_1 ht hvm hpx hbx hz1 hk1 hS hc9 hv9 hf9 => ?_) (fun r_1 uu t H_1 locs_1 ht hvm hw hB hz1 hk1 hS => ?_)
  · rw [ht] at hbx
    have hO : oA cL ao _ H_1 := (hk1 ao hz0 hao).trans hO
    obtain ⟨⟨rfl, hcx⟩, hMx⟩ := hbx
    refine vx_catch (own := RL) (name := exS) hown [] ⟨0, 8, 11, 37⟩ [] (htb.trans rfl) (fun z hz => absurd hz List.not_mem_nil) (by decide) (by decide) (hts (.classLink RL 37 exS) (by decide +kernel)) (va_Nw.use rfl hxc.2.2.1) hc9 hv9 hf9 ?_
    refine W.eq (g2 := F0 m 11 ls [.ref q9]) rfl ?_
    refine lv_astore_n (lv' := [(2, .ref q9), (0, .ref ((g 0))), (1, .ref ao)]) hx hb dL_undo_11 rfl hl (by decide) rfl (fun ls hl => ?_)
    refine lv_iconst (v := 1) hx hb dL_undo_12 (by decide) ?_
    exact W.iret (v := 1) hx hb hr (fun t ht hW => ⟨⟨_, 1, rfl, rfl, (by dsimp only; rw [ht]; exact Or.inr (⟨rfl, hcx, ⟨_, hO⟩, hMx⟩))⟩, hS.F ht⟩) hS.2.2 dL_undo_13
  rw [ht] at hB
  obtain ⟨hc0, hM2⟩ := hB
  have hO : oA cL ao _ H_1 := (hk1 ao hz0 hao).trans hO
  obtain rfl := hw
  refine lv_i2l hx hb dL_undo_6 rfl ?_
  refine w_last hx hb hKL hO (Or.inr rfl) hS dL_undo_7 (fun H_2 locs_2 hO2 hz2 ho2 hS => ?_)
  have hM3 := hM2.at (A := fun q => q = ao) (fun q _ h => ho2 q h) hne
  refine lv_goto (tgt := 14) hx hb dL_undo_8 rfl ?_
  refine lv_iconst (v := 0) hx hb dL_undo_14 (by decide) ?_
  exact W.iret (v := 0) hx hb hr (fun t ht hW => ⟨⟨_, 0, rfl, rfl, (by dsimp only; rw [ht]; exact Or.inl ⟨rfl, hc0, hO2, hM3⟩)⟩, hS.F ht⟩) hS.2.2 dL_undo_15
set_option maxHeartbeats 4000000 in
set_option maxRecDepth 100000 in
theorem c_L_mix (l : Launch) (hst : l.stackTraces = false) (cL cD : ClassId) (ao : Nat) (E : wE) (g : Nat → Nat) (ln : Nat) (bf : Nat → Int32) (z : SS) (ke : Nat) (hs : Nat → SS) (x w0 : Int32) : Met l yL_mix wsL_mix ({ frames := 8, cells := 2, slots := 12, locals := 149 }) (va_Pc [.ref ((g 0)), .int x, .int w0, .ref ao] (wL E cL cD g ao (fun H => ∃ x, oA cL ao (.long x) H) (MB E g ln bf z ke hs))) (va_Qi (fun (r u : Int32) => r = u) (fun u t => (u = 0 ∧ ((vp_in x 10000 ∧ vp_in w0 3)) ∧ oA cL ao (.long ((mixF z x.toNatClampNeg w0.toNatClampNeg)).toInt64) t.heap ∧ MB E g ln bf z ke hs t.heap) ∨ (u = 1 ∧ (¬ (vp_in x 10000 ∧ vp_in w0 3)) ∧ (∃ x, oA cL ao (.long x) t.heap) ∧ MB E g ln bf z ke hs t.heap)) (wA g ao)) 2 12 (wA g ao) := by
  refine w_ofWH (cc := cL_mix) (maxL := 5) (ret := some .int) (hh := [(0, 10, 13, 13)]) (by decide) rfl ?_
  intro p e s m args below meth c s₁ B hml hv
  obtain ⟨rfl, hM, ⟨x0, hO⟩, hK, hKL, hI, hne, hxe, hxc⟩ := hv
  have hx := B.exec
  have hb := B.bytes
  have hr := B.returns
  have hts := atoms_spec (ws := wsL_mix) B.pre
  have hown : s.vm.findClass RL = some m.cls := findClass_of_methodNamed B.named
  have hlocks := B.notSynchronized
  have htb := vx_table (x := yL_mix) B (hts _ List.mem_cons_self)
  have hS : va_S (wA g ao) s.heap s.heap [] := va_S.rf
  have hz0 : ao < s.heap.size := hO.lt
  have hao : ¬ wF 94 g ao := fun ⟨k, hk, e⟩ => hne k hk e.symm
  have hl := lv_entry ([.ref ((g 0)), .int x, .int w0, .ref ao]) (n := 5) (Nat.le_of_ble_eq_true rfl)
  rw [lg_entry_eq]
  generalize (lg_sl ([.ref ((g 0)), .int x, .int w0, .ref ao]) ++ List.replicate (5 - (lg_sl ([.ref ((g 0)), .int x, .int w0, .ref ao])).length) Slot.unset).toArray = ls at hl ⊢
  have hl : lv_has ls 5 [(0, .ref ((g 0))), (1, .int x), (2, .int w0), (3, .ref ao)] := hl
  refine lv_aload_n hx hb dL_mix_0 rfl (lv_at hl 3 rfl) ?_
  refine lv_iconst (v := 0) hx hb dL_mix_1 (by decide) ?_
  refine lv_aload_n hx hb dL_mix_2 rfl (lv_at hl 0 rfl) ?_
  refine lv_iload_n hx hb dL_mix_3 rfl (lv_at hl 1 rfl) ?_
  refine lv_iload_n hx hb dL_mix_4 rfl (lv_at hl 2 rfl) ?_
  refine vx_calli (vx_runV (As := [.int x, .int w0]) (rest := [.int 0, .ref ao]) ⟨hx, hb, hml, hown, hts⟩ (c_X5_mix l hst E g ln bf z ke hs x w0) (cwV 2 hts gL_mix_X5_mix rfl rfl rfl (by decide +kernel) ⟨Nat.le_of_ble_eq_true rfl, Nat.le_of_ble_eq_true rfl⟩) ⟨wSx.blind, (w_recv hK hM.main 0 (by decide) rfl (ci := 5) rfl), fun U hU hW => wSx.go hM hK hI hxe hS (fun q h => Or.inl h) hU hW⟩ rfl rfl hl.1 rfl (lv_room (Nat.le_of_ble_eq_true rfl)) dL_mix_5 ⟨Nat.le_of_ble_eq_true rfl, Nat.le_of_ble_eq_true rfl⟩) hS (fun q _ h => Or.inl h) (fun q h => Or.inl h) (fun q _ h => Or.inl h) (fun E9 ce9 q9 uu t H_1 locs_1 ht hvm hpx hbx hz1 hk1 hS hc9 hv9 hf9 => ?_) (fun r_1 uu t H_1 locs_1 ht hvm hw hB hz1 hk1 hS => ?_)
  · rw [ht] at hbx
    have hO : oA cL ao _ H_1 := (hk1 ao hz0 hao).trans hO
    obtain ⟨⟨rfl, hcx⟩, hMx⟩ := hbx
    refine vx_catch (own := RL) (name := exA) hown [] ⟨0, 10, 13, 13⟩ [] (htb.trans rfl) (fun z hz => absurd hz List.not_mem_nil) (by decide) (by decide) (hts (.classLink RL 13 exA) (by decide +kernel)) (va_Nw.use rfl hxc.1) hc9 hv9 hf9 ?_
    refine W.eq (g2 := F0 m 13 ls [.ref q9]) rfl ?_
    refine lv_astore (lv' := [(4, .ref q9), (0, .ref ((g 0))), (1, .int x), (2, .int w0), (3, .ref ao)]) hx hb dL_mix_13 hl (by decide) rfl (fun ls hl => ?_)
    refine lv_iconst (v := 1) hx hb dL_mix_15 (by decide) ?_
    exact W.iret (v := 1) hx hb hr (fun t ht hW => ⟨⟨_, 1, rfl, rfl, (by dsimp only; rw [ht]; exact Or.inr (⟨rfl, hcx, ⟨_, hO⟩, hMx⟩))⟩, hS.F ht⟩) hS.2.2 dL_mix_16
  rw [ht] at hB
  obtain ⟨hc0, hM2⟩ := hB
  have hO : oA cL ao _ H_1 := (hk1 ao hz0 hao).trans hO
  obtain rfl := hw
  refine lv_i2l hx hb dL_mix_8 rfl ?_
  refine w_last hx hb hKL hO (Or.inr rfl) hS dL_mix_9 (fun H_2 locs_2 hO2 hz2 ho2 hS => ?_)
  have hM3 := hM2.at (A := fun q => q = ao) (fun q _ h => ho2 q h) hne
  refine lv_goto (tgt := 17) hx hb dL_mix_10 rfl ?_
  refine lv_iconst (v := 0) hx hb dL_mix_17 (by decide) ?_
  exact W.iret (v := 0) hx hb hr (fun t ht hW => ⟨⟨_, 0, rfl, rfl, (by dsimp only; rw [ht]; exact Or.inl ⟨rfl, hc0, hO2, hM3⟩)⟩, hS.F ht⟩) hS.2.2 dL_mix_18
set_option maxHeartbeats 4000000 in
set_option maxRecDepth 100000 in
theorem c_L_receiver (l : Launch) (hst : l.stackTraces = false) (cL cD : ClassId) (ao : Nat) (E : wE) (g : Nat → Nat) (ln : Nat) (bf : Nat → Int32) (z : SS) (ke : Nat) (hs : Nat → SS) (x w0 : Int32) : Met l yL_receiver wsL_receiver ({ frames := 8, cells := 2, slots := 12, locals := 152 }) (va_Pc [.ref ((g 0)), .int x, .int w0, .ref ao] (wL E cL cD g ao (fun H => ∃ x, oA cL ao (.long x) H) (MB E g ln bf z ke hs))) (va_Qi (fun (r u : Int32) => r = u) (fun u t => (u = 0 ∧ ((vp_in x 3 ∧ vp_in w0 9)) ∧ oA cL ao (.long ((numF z.1 (z.2.2.2 x.toNatClampNeg) w0.toNatClampNeg)).toInt64) t.heap ∧ MB E g ln bf z ke hs t.heap) ∨ (u = 1 ∧ (¬ vp_in x 3) ∧ (∃ x, oA cL ao (.long x) t.heap) ∧ MB E g ln bf z ke hs t.heap) ∨ (u = 2 ∧ (vp_in x 3 ∧ ¬ vp_in w0 9) ∧ (∃ x, oA cL ao (.long x) t.heap) ∧ MB E g ln bf z ke hs t.heap)) (wA g ao)) 2 12 (wA g ao) := by
  refine w_ofWH (cc := cL_receiver) (maxL := 5) (ret := some .int) (hh := [(0, 10, 13, 19), (0, 10, 17, 13)]) (by decide) rfl ?_
  intro p e s m args below meth c s₁ B hml hv
  obtain ⟨rfl, hM, ⟨x0, hO⟩, hK, hKL, hI, hne, hxe, hxc⟩ := hv
  have hx := B.exec
  have hb := B.bytes
  have hr := B.returns
  have hts := atoms_spec (ws := wsL_receiver) B.pre
  have hown : s.vm.findClass RL = some m.cls := findClass_of_methodNamed B.named
  have hlocks := B.notSynchronized
  have htb := vx_table (x := yL_receiver) B (hts _ List.mem_cons_self)
  have hS : va_S (wA g ao) s.heap s.heap [] := va_S.rf
  have hz0 : ao < s.heap.size := hO.lt
  have hao : ¬ wF 94 g ao := fun ⟨k, hk, e⟩ => hne k hk e.symm
  have hl := lv_entry ([.ref ((g 0)), .int x, .int w0, .ref ao]) (n := 5) (Nat.le_of_ble_eq_true rfl)
  rw [lg_entry_eq]
  generalize (lg_sl ([.ref ((g 0)), .int x, .int w0, .ref ao]) ++ List.replicate (5 - (lg_sl ([.ref ((g 0)), .int x, .int w0, .ref ao])).length) Slot.unset).toArray = ls at hl ⊢
  have hl : lv_has ls 5 [(0, .ref ((g 0))), (1, .int x), (2, .int w0), (3, .ref ao)] := hl
  refine lv_aload_n hx hb dL_receiver_0 rfl (lv_at hl 3 rfl) ?_
  refine lv_iconst (v := 0) hx hb dL_receiver_1 (by decide) ?_
  refine lv_aload_n hx hb dL_receiver_2 rfl (lv_at hl 0 rfl) ?_
  refine lv_iload_n hx hb dL_receiver_3 rfl (lv_at hl 1 rfl) ?_
  refine lv_iload_n hx hb dL_receiver_4 rfl (lv_at hl 2 rfl) ?_
  refine vx_calli (vx_runV (As := [.int x, .int w0]) (rest := [.int 0, .ref ao]) ⟨hx, hb, hml, hown, hts⟩ (c_X5_receiver l hst E g ln bf z ke hs x w0) (cwV 2 hts gL_receiver_X5_receiver rfl rfl rfl (by decide +kernel) ⟨Nat.le_of_ble_eq_true rfl, Nat.le_of_ble_eq_true rfl⟩) ⟨wSx.blind, (w_recv hK hM.main 0 (by decide) rfl (ci := 5) rfl), fun U hU hW => wSx.go hM hK hI hxe hS (fun q h => Or.inl h) hU hW⟩ rfl rfl hl.1 rfl (lv_room (Nat.le_of_ble_eq_true rfl)) dL_receiver_5 ⟨Nat.le_of_ble_eq_true rfl, Nat.le_of_ble_eq_true rfl⟩) hS (fun q _ h => Or.inl h) (fun q h => Or.inl h) (fun q _ h => Or.inl h) (fun E9 ce9 q9 uu t H_1 locs_1 ht hvm hpx hbx hz1 hk1 hS hc9 hv9 hf9 => ?_) (fun r_1 uu t H_1 locs_1 ht hvm hw hB hz1 hk1 hS => ?_)
  · rw [ht] at hbx
    have hO : oA cL ao _ H_1 := (hk1 ao hz0 hao).trans hO
    obtain ⟨⟨rfl, hcx⟩ | ⟨rfl, hcx⟩, hMx⟩ := hbx
    · skip
      refine vx_catch (own := RL) (name := exB) hown [] ⟨0, 10, 13, 19⟩ [⟨0, 10, 17, 13⟩] (htb.trans rfl) (fun z hz => absurd hz List.not_mem_nil) (by decide) (by decide) (hts (.classLink RL 19 exB) (by decide +kernel)) (va_Nw.use rfl hxc.2.1) hc9 hv9 hf9 ?_
      refine W.eq (g2 := F0 m 13 ls [.ref q9]) rfl ?_
      refine lv_astore (lv' := [(4, .ref q9), (0, .ref ((g 0))), (1, .int x), (2, .int w0), (3, .ref ao)]) hx hb dL_receiver_13 hl (by decide) rfl (fun ls hl => ?_)
      refine lv_iconst (v := 1) hx hb dL_receiver_15 (by decide) ?_
      exact W.iret (v := 1) hx hb hr (fun t ht hW => ⟨⟨_, 1, rfl, rfl, (by dsimp only; rw [ht]; exact Or.inr (Or.inl ⟨rfl, hcx, ⟨_, hO⟩, hMx⟩))⟩, hS.F ht⟩) hS.2.2 dL_receiver_16
    · skip
      refine vx_catch (own := RL) (name := exA) hown [⟨0, 10, 13, 19⟩] ⟨0, 10, 17, 13⟩ [] (htb.trans rfl) (fun z hz => by obtain rfl := List.mem_singleton.mp hz; exact Or.inr ⟨by decide, _, hts (.classLink RL 19 exB) (by decide +kernel), hxc.2.2.2.1⟩) (by decide) (by decide) (hts (.classLink RL 13 exA) (by decide +kernel)) (va_Nw.use rfl hxc.1) hc9 hv9 hf9 ?_
      refine W.eq (g2 := F0 m 17 ls [.ref q9]) rfl ?_
      refine lv_astore (lv' := [(4, .ref q9), (0, .ref ((g 0))), (1, .int x), (2, .int w0), (3, .ref ao)]) hx hb dL_receiver_17 hl (by decide) rfl (fun ls hl => ?_)
      refine lv_iconst (v := 2) hx hb dL_receiver_19 (by decide) ?_
      exact W.iret (v := 2) hx hb hr (fun t ht hW => ⟨⟨_, 2, rfl, rfl, (by dsimp only; rw [ht]; exact Or.inr (Or.inr (⟨rfl, hcx, ⟨_, hO⟩, hMx⟩)))⟩, hS.F ht⟩) hS.2.2 dL_receiver_20
  rw [ht] at hB
  obtain ⟨hc0, hM2⟩ := hB
  have hO : oA cL ao _ H_1 := (hk1 ao hz0 hao).trans hO
  obtain rfl := hw
  refine lv_i2l hx hb dL_receiver_8 rfl ?_
  refine w_last hx hb hKL hO (Or.inr rfl) hS dL_receiver_9 (fun H_2 locs_2 hO2 hz2 ho2 hS => ?_)
  have hM3 := hM2.at (A := fun q => q = ao) (fun q _ h => ho2 q h) hne
  refine lv_goto (tgt := 21) hx hb dL_receiver_10 rfl ?_
  refine lv_iconst (v := 0) hx hb dL_receiver_21 (by decide) ?_
  exact W.iret (v := 0) hx hb hr (fun t ht hW => ⟨⟨_, 0, rfl, rfl, (by dsimp only; rw [ht]; exact Or.inl ⟨rfl, hc0, hO2, hM3⟩)⟩, hS.F ht⟩) hS.2.2 dL_receiver_22
set_option maxHeartbeats 4000000 in
set_option maxRecDepth 100000 in
theorem c_L_known (l : Launch) (hst : l.stackTraces = false) (cL cD : ClassId) (ao : Nat) (E : wE) (g : Nat → Nat) (ln : Nat) (bf : Nat → Int32) (z : SS) (ke : Nat) (hs : Nat → SS) (x y : Int32) : Met l yL_known wsL_known ({ frames := 8, cells := 2, slots := 12, locals := 135 }) (va_Pc [.ref ((g 0)), .int x, .int y, .ref ao] (wL E cL cD g ao (fun H => ∃ x, oA cL ao (.long x) H) (MB E g ln bf z ke hs))) (va_Qi (fun (r u : Int32) => r = u) (fun u t => (u = 0 ∧ ((vp_in x 3 ∧ vp_in y z.1)) ∧ oA cL ao (.long ((knownF (z.2.2.2 x.toNatClampNeg) y.toNatClampNeg)).toInt64) t.heap ∧ MB E g ln bf z ke hs t.heap) ∨ (u = 1 ∧ (¬ (vp_in x 3 ∧ vp_in y z.1)) ∧ (∃ x, oA cL ao (.long x) t.heap) ∧ MB E g ln bf z ke hs t.heap)) (wA g ao)) 2 12 (wA g ao) := by
  refine w_ofWH (cc := cL_known) (maxL := 5) (ret := some .int) (hh := [(0, 10, 13, 19)]) (by decide) rfl ?_
  intro p e s m args below meth c s₁ B hml hv
  obtain ⟨rfl, hM, ⟨x0, hO⟩, hK, hKL, hI, hne, hxe, hxc⟩ := hv
  have hx := B.exec
  have hb := B.bytes
  have hr := B.returns
  have hts := atoms_spec (ws := wsL_known) B.pre
  have hown : s.vm.findClass RL = some m.cls := findClass_of_methodNamed B.named
  have hlocks := B.notSynchronized
  have htb := vx_table (x := yL_known) B (hts _ List.mem_cons_self)
  have hS : va_S (wA g ao) s.heap s.heap [] := va_S.rf
  have hz0 : ao < s.heap.size := hO.lt
  have hao : ¬ wF 94 g ao := fun ⟨k, hk, e⟩ => hne k hk e.symm
  have hl := lv_entry ([.ref ((g 0)), .int x, .int y, .ref ao]) (n := 5) (Nat.le_of_ble_eq_true rfl)
  rw [lg_entry_eq]
  generalize (lg_sl ([.ref ((g 0)), .int x, .int y, .ref ao]) ++ List.replicate (5 - (lg_sl ([.ref ((g 0)), .int x, .int y, .ref ao])).length) Slot.unset).toArray = ls at hl ⊢
  have hl : lv_has ls 5 [(0, .ref ((g 0))), (1, .int x), (2, .int y), (3, .ref ao)] := hl
  refine lv_aload_n hx hb dL_known_0 rfl (lv_at hl 3 rfl) ?_
  refine lv_iconst (v := 0) hx hb dL_known_1 (by decide) ?_
  refine lv_aload_n hx hb dL_known_2 rfl (lv_at hl 0 rfl) ?_
  refine lv_iload_n hx hb dL_known_3 rfl (lv_at hl 1 rfl) ?_
  refine lv_iload_n hx hb dL_known_4 rfl (lv_at hl 2 rfl) ?_
  refine vx_calli (vx_runV (As := [.int x, .int y]) (rest := [.int 0, .ref ao]) ⟨hx, hb, hml, hown, hts⟩ (c_X5_known l hst E g ln bf z ke hs x y) (cwV 2 hts gL_known_X5_known rfl rfl rfl (by decide +kernel) ⟨Nat.le_of_ble_eq_true rfl, Nat.le_of_ble_eq_true rfl⟩) ⟨wSx.blind, (w_recv hK hM.main 0 (by decide) rfl (ci := 5) rfl), fun U hU hW => wSx.go hM hK hI hxe hS (fun q h => Or.inl h) hU hW⟩ rfl rfl hl.1 rfl (lv_room (Nat.le_of_ble_eq_true rfl)) dL_known_5 ⟨Nat.le_of_ble_eq_true rfl, Nat.le_of_ble_eq_true rfl⟩) hS (fun q _ h => Or.inl h) (fun q h => Or.inl h) (fun q _ h => Or.inl h) (fun E9 ce9 q9 uu t H_1 locs_1 ht hvm hpx hbx hz1 hk1 hS hc9 hv9 hf9 => ?_) (fun r_1 uu t H_1 locs_1 ht hvm hw hB hz1 hk1 hS => ?_)
  · rw [ht] at hbx
    have hO : oA cL ao _ H_1 := (hk1 ao hz0 hao).trans hO
    obtain ⟨⟨rfl, hcx⟩, hMx⟩ := hbx
    refine vx_catch (own := RL) (name := exB) hown [] ⟨0, 10, 13, 19⟩ [] (htb.trans rfl) (fun z hz => absurd hz List.not_mem_nil) (by decide) (by decide) (hts (.classLink RL 19 exB) (by decide +kernel)) (va_Nw.use rfl hxc.2.1) hc9 hv9 hf9 ?_
    refine W.eq (g2 := F0 m 13 ls [.ref q9]) rfl ?_
    refine lv_astore (lv' := [(4, .ref q9), (0, .ref ((g 0))), (1, .int x), (2, .int y), (3, .ref ao)]) hx hb dL_known_13 hl (by decide) rfl (fun ls hl => ?_)
    refine lv_iconst (v := 1) hx hb dL_known_15 (by decide) ?_
    exact W.iret (v := 1) hx hb hr (fun t ht hW => ⟨⟨_, 1, rfl, rfl, (by dsimp only; rw [ht]; exact Or.inr (⟨rfl, hcx, ⟨_, hO⟩, hMx⟩))⟩, hS.F ht⟩) hS.2.2 dL_known_16
  rw [ht] at hB
  obtain ⟨hc0, hM2⟩ := hB
  have hO : oA cL ao _ H_1 := (hk1 ao hz0 hao).trans hO
  obtain rfl := hw
  refine lv_i2l hx hb dL_known_8 rfl ?_
  refine w_last hx hb hKL hO (Or.inr rfl) hS dL_known_9 (fun H_2 locs_2 hO2 hz2 ho2 hS => ?_)
  have hM3 := hM2.at (A := fun q => q = ao) (fun q _ h => ho2 q h) hne
  refine lv_goto (tgt := 17) hx hb dL_known_10 rfl ?_
  refine lv_iconst (v := 0) hx hb dL_known_17 (by decide) ?_
  exact W.iret (v := 0) hx hb hr (fun t ht hW => ⟨⟨_, 0, rfl, rfl, (by dsimp only; rw [ht]; exact Or.inl ⟨rfl, hc0, hO2, hM3⟩)⟩, hS.F ht⟩) hS.2.2 dL_known_18
set_option maxHeartbeats 4000000 in
set_option maxRecDepth 100000 in
theorem c_L_waiting (l : Launch) (hst : l.stackTraces = false) (cL cD : ClassId) (ao : Nat) (E : wE) (g : Nat → Nat) (ln : Nat) (bf : Nat → Int32) (z : SS) (ke : Nat) (hs : Nat → SS) (x y w0 : Int32) : Met l yL_waiting wsL_waiting ({ frames := 8, cells := 2, slots := 12, locals := 137 }) (va_Pc [.ref ((g 0)), .int x, .int y, .int w0, .ref ao] (wL E cL cD g ao (fun H => ∃ x, oA cL ao (.long x) H) (MB E g ln bf z ke hs))) (va_Qi (fun (r u : Int32) => r = u) (fun u t => (u = 0 ∧ ((vp_in x 3 ∧ ¬ y < 0 ∧ vp_in w0 2)) ∧ oA cL ao (.long ((waitF (z.2.2.2 x.toNatClampNeg) y.toNatClampNeg w0.toNatClampNeg)).toInt64) t.heap ∧ MB E g ln bf z ke hs t.heap) ∨ (u = 1 ∧ (¬ vp_in x 3) ∧ (∃ x, oA cL ao (.long x) t.heap) ∧ MB E g ln bf z ke hs t.heap) ∨ (u = 2 ∧ (vp_in x 3 ∧ ¬ (¬ y < 0 ∧ vp_in w0 2)) ∧ (∃ x, oA cL ao (.long x) t.heap) ∧ MB E g ln bf z ke hs t.heap)) (wA g ao)) 2 12 (wA g ao) := by
  refine w_ofWH (cc := cL_waiting) (maxL := 6) (ret := some .int) (hh := [(0, 12, 15, 19), (0, 12, 19, 13)]) (by decide) rfl ?_
  intro p e s m args below meth c s₁ B hml hv
  obtain ⟨rfl, hM, ⟨x0, hO⟩, hK, hKL, hI, hne, hxe, hxc⟩ := hv
  have hx := B.exec
  have hb := B.bytes
  have hr := B.returns
  have hts := atoms_spec (ws := wsL_waiting) B.pre
  have hown : s.vm.findClass RL = some m.cls := findClass_of_methodNamed B.named
  have hlocks := B.notSynchronized
  have htb := vx_table (x := yL_waiting) B (hts _ List.mem_cons_self)
  have hS : va_S (wA g ao) s.heap s.heap [] := va_S.rf
  have hz0 : ao < s.heap.size := hO.lt
  have hao : ¬ wF 94 g ao := fun ⟨k, hk, e⟩ => hne k hk e.symm
  have hl := lv_entry ([.ref ((g 0)), .int x, .int y, .int w0, .ref ao]) (n := 6) (Nat.le_of_ble_eq_true rfl)
  rw [lg_entry_eq]
  generalize (lg_sl ([.ref ((g 0)), .int x, .int y, .int w0, .ref ao]) ++ List.replicate (6 - (lg_sl ([.ref ((g 0)), .int x, .int y, .int w0, .ref ao])).length) Slot.unset).toArray = ls at hl ⊢
  have hl : lv_has ls 6 [(0, .ref ((g 0))), (1, .int x), (2, .int y), (3, .int w0), (4, .ref ao)] := hl
  refine lv_aload hx hb dL_waiting_0 (lv_at hl 4 rfl) ?_
  refine lv_iconst (v := 0) hx hb dL_waiting_2 (by decide) ?_
  refine lv_aload_n hx hb dL_waiting_3 rfl (lv_at hl 0 rfl) ?_
  refine lv_iload_n hx hb dL_waiting_4 rfl (lv_at hl 1 rfl) ?_
  refine lv_iload_n hx hb dL_waiting_5 rfl (lv_at hl 2 rfl) ?_
  refine lv_iload_n hx hb dL_waiting_6 rfl (lv_at hl 3 rfl) ?_
  refine vx_calli (vx_runV (As := [.int x, .int y, .int w0]) (rest := [.int 0, .ref ao]) ⟨hx, hb, hml, hown, hts⟩ (c_X5_waiting l hst E g ln bf z ke hs x y w0) (cwV 3 hts gL_waiting_X5_waiting rfl rfl rfl (by decide +kernel) ⟨Nat.le_of_ble_eq_true rfl, Nat.le_of_ble_eq_true rfl⟩) ⟨wSx.blind, (w_recv hK hM.main 0 (by decide) rfl (ci := 5) rfl), fun U hU hW => wSx.go hM hK hI hxe hS (fun q h => Or.inl h) hU hW⟩ rfl rfl hl.1 rfl (lv_room (Nat.le_of_ble_eq_true rfl)) dL_waiting_7 ⟨Nat.le_of_ble_eq_true rfl, Nat.le_of_ble_eq_true rfl⟩) hS (fun q _ h => Or.inl h) (fun q h => Or.inl h) (fun q _ h => Or.inl h) (fun E9 ce9 q9 uu t H_1 locs_1 ht hvm hpx hbx hz1 hk1 hS hc9 hv9 hf9 => ?_) (fun r_1 uu t H_1 locs_1 ht hvm hw hB hz1 hk1 hS => ?_)
  · rw [ht] at hbx
    have hO : oA cL ao _ H_1 := (hk1 ao hz0 hao).trans hO
    obtain ⟨⟨rfl, hcx⟩ | ⟨rfl, hcx⟩, hMx⟩ := hbx
    · skip
      refine vx_catch (own := RL) (name := exB) hown [] ⟨0, 12, 15, 19⟩ [⟨0, 12, 19, 13⟩] (htb.trans rfl) (fun z hz => absurd hz List.not_mem_nil) (by decide) (by decide) (hts (.classLink RL 19 exB) (by decide +kernel)) (va_Nw.use rfl hxc.2.1) hc9 hv9 hf9 ?_
      refine W.eq (g2 := F0 m 15 ls [.ref q9]) rfl ?_
      refine lv_astore (lv' := [(5, .ref q9), (0, .ref ((g 0))), (1, .int x), (2, .int y), (3, .int w0), (4, .ref ao)]) hx hb dL_waiting_15 hl (by decide) rfl (fun ls hl => ?_)
      refine lv_iconst (v := 1) hx hb dL_waiting_17 (by decide) ?_
      exact W.iret (v := 1) hx hb hr (fun t ht hW => ⟨⟨_, 1, rfl, rfl, (by dsimp only; rw [ht]; exact Or.inr (Or.inl ⟨rfl, hcx, ⟨_, hO⟩, hMx⟩))⟩, hS.F ht⟩) hS.2.2 dL_waiting_18
    · skip
      refine vx_catch (own := RL) (name := exA) hown [⟨0, 12, 15, 19⟩] ⟨0, 12, 19, 13⟩ [] (htb.trans rfl) (fun z hz => by obtain rfl := List.mem_singleton.mp hz; exact Or.inr ⟨by decide, _, hts (.classLink RL 19 exB) (by decide +kernel), hxc.2.2.2.1⟩) (by decide) (by decide) (hts (.classLink RL 13 exA) (by decide +kernel)) (va_Nw.use rfl hxc.1) hc9 hv9 hf9 ?_
      refine W.eq (g2 := F0 m 19 ls [.ref q9]) rfl ?_
      refine lv_astore (lv' := [(5, .ref q9), (0, .ref ((g 0))), (1, .int x), (2, .int y), (3, .int w0), (4, .ref ao)]) hx hb dL_waiting_19 hl (by decide) rfl (fun ls hl => ?_)
      refine lv_iconst (v := 2) hx hb dL_waiting_21 (by decide) ?_
      exact W.iret (v := 2) hx hb hr (fun t ht hW => ⟨⟨_, 2, rfl, rfl, (by dsimp only; rw [ht]; exact Or.inr (Or.inr (⟨rfl, hcx, ⟨_, hO⟩, hMx⟩)))⟩, hS.F ht⟩) hS.2.2 dL_waiting_22
  rw [ht] at hB
  obtain ⟨hc0, hM2⟩ := hB
  have hO : oA cL ao _ H_1 := (hk1 ao hz0 hao).trans hO
  obtain rfl := hw
  refine lv_i2l hx hb dL_waiting_10 rfl ?_
  refine w_last hx hb hKL hO (Or.inr rfl) hS dL_waiting_11 (fun H_2 locs_2 hO2 hz2 ho2 hS => ?_)
  have hM3 := hM2.at (A := fun q => q = ao) (fun q _ h => ho2 q h) hne
  refine lv_goto (tgt := 23) hx hb dL_waiting_12 rfl ?_
  refine lv_iconst (v := 0) hx hb dL_waiting_23 (by decide) ?_
  exact W.iret (v := 0) hx hb hr (fun t ht hW => ⟨⟨_, 0, rfl, rfl, (by dsimp only; rw [ht]; exact Or.inl ⟨rfl, hc0, hO2, hM3⟩)⟩, hS.F ht⟩) hS.2.2 dL_waiting_24
set_option maxHeartbeats 4000000 in
set_option maxRecDepth 100000 in
theorem c_L_count (l : Launch) (hst : l.stackTraces = false) (cL cD : ClassId) (ao : Nat) (E : wE) (g : Nat → Nat) (ln : Nat) (bf : Nat → Int32) (z : SS) (ke : Nat) (hs : Nat → SS) (w0 : Int32) : Met l yL_count wsL_count ({ frames := 8, cells := 1, slots := 6, locals := 132 }) (va_Pc [.ref ((g 0)), .int w0, .ref ao] (wL E cL cD g ao (fun H => ∃ x, oA cL ao (.long x) H) (MB E g ln bf z ke hs))) (va_Qi (fun (r u : Int32) => r = u) (fun u t => (u = 0 ∧ (vp_in w0 6) ∧ oA cL ao (.long ((countF z ke w0.toNatClampNeg)).toInt64) t.heap ∧ MB E g ln bf z ke hs t.heap) ∨ (u = 1 ∧ (¬ vp_in w0 6) ∧ (∃ x, oA cL ao (.long x) t.heap) ∧ MB E g ln bf z ke hs t.heap)) (wA g ao)) 1 6 (wA g ao) := by
  refine w_ofWH (cc := cL_count) (maxL := 4) (ret := some .int) (hh := [(0, 9, 12, 13)]) (by decide) rfl ?_
  intro p e s m args below meth c s₁ B hml hv
  obtain ⟨rfl, hM, ⟨x0, hO⟩, hK, hKL, hI, hne, hxe, hxc⟩ := hv
  have hx := B.exec
  have hb := B.bytes
  have hr := B.returns
  have hts := atoms_spec (ws := wsL_count) B.pre
  have hown : s.vm.findClass RL = some m.cls := findClass_of_methodNamed B.named
  have hlocks := B.notSynchronized
  have htb := vx_table (x := yL_count) B (hts _ List.mem_cons_self)
  have hS : va_S (wA g ao) s.heap s.heap [] := va_S.rf
  have hz0 : ao < s.heap.size := hO.lt
  have hao : ¬ wF 94 g ao := fun ⟨k, hk, e⟩ => hne k hk e.symm
  have hl := lv_entry ([.ref ((g 0)), .int w0, .ref ao]) (n := 4) (Nat.le_of_ble_eq_true rfl)
  rw [lg_entry_eq]
  generalize (lg_sl ([.ref ((g 0)), .int w0, .ref ao]) ++ List.replicate (4 - (lg_sl ([.ref ((g 0)), .int w0, .ref ao])).length) Slot.unset).toArray = ls at hl ⊢
  have hl : lv_has ls 4 [(0, .ref ((g 0))), (1, .int w0), (2, .ref ao)] := hl
  refine lv_aload_n hx hb dL_count_0 rfl (lv_at hl 2 rfl) ?_
  refine lv_iconst (v := 0) hx hb dL_count_1 (by decide) ?_
  refine lv_aload_n hx hb dL_count_2 rfl (lv_at hl 0 rfl) ?_
  refine lv_iload_n hx hb dL_count_3 rfl (lv_at hl 1 rfl) ?_
  refine vx_calli (vx_runV (As := [.int w0]) (rest := [.int 0, .ref ao]) ⟨hx, hb, hml, hown, hts⟩ (c_X5_count l hst E g ln bf z ke hs w0) (cwV 1 hts gL_count_X5_count rfl rfl rfl (by decide +kernel) ⟨Nat.le_of_ble_eq_true rfl, Nat.le_of_ble_eq_true rfl⟩) ⟨wSx.blind, (w_recv hK hM.main 0 (by decide) rfl (ci := 5) rfl), fun U hU hW => wSx.go hM hK hI hxe hS (fun q h => Or.inl h) hU hW⟩ rfl rfl hl.1 rfl (lv_room (Nat.le_of_ble_eq_true rfl)) dL_count_4 ⟨Nat.le_of_ble_eq_true rfl, Nat.le_of_ble_eq_true rfl⟩) hS (fun q _ h => Or.inl h) (fun q h => Or.inl h) (fun q _ h => Or.inl h) (fun E9 ce9 q9 uu t H_1 locs_1 ht hvm hpx hbx hz1 hk1 hS hc9 hv9 hf9 => ?_) (fun r_1 uu t H_1 locs_1 ht hvm hw hB hz1 hk1 hS => ?_)
  · rw [ht] at hbx
    have hO : oA cL ao _ H_1 := (hk1 ao hz0 hao).trans hO
    obtain ⟨⟨rfl, hcx⟩, hMx⟩ := hbx
    refine vx_catch (own := RL) (name := exA) hown [] ⟨0, 9, 12, 13⟩ [] (htb.trans rfl) (fun z hz => absurd hz List.not_mem_nil) (by decide) (by decide) (hts (.classLink RL 13 exA) (by decide +kernel)) (va_Nw.use rfl hxc.1) hc9 hv9 hf9 ?_
    refine W.eq (g2 := F0 m 12 ls [.ref q9]) rfl ?_
    refine lv_astore_n (lv' := [(3, .ref q9), (0, .ref ((g 0))), (1, .int w0), (2, .ref ao)]) hx hb dL_count_12 rfl hl (by decide) rfl (fun ls hl => ?_)
    refine lv_iconst (v := 1) hx hb dL_count_13 (by decide) ?_
    exact W.iret (v := 1) hx hb hr (fun t ht hW => ⟨⟨_, 1, rfl, rfl, (by dsimp only; rw [ht]; exact Or.inr (⟨rfl, hcx, ⟨_, hO⟩, hMx⟩))⟩, hS.F ht⟩) hS.2.2 dL_count_14
  rw [ht] at hB
  obtain ⟨hc0, hM2⟩ := hB
  have hO : oA cL ao _ H_1 := (hk1 ao hz0 hao).trans hO
  obtain rfl := hw
  refine lv_i2l hx hb dL_count_7 rfl ?_
  refine w_last hx hb hKL hO (Or.inr rfl) hS dL_count_8 (fun H_2 locs_2 hO2 hz2 ho2 hS => ?_)
  have hM3 := hM2.at (A := fun q => q = ao) (fun q _ h => ho2 q h) hne
  refine lv_goto (tgt := 15) hx hb dL_count_9 rfl ?_
  refine lv_iconst (v := 0) hx hb dL_count_15 (by decide) ?_
  exact W.iret (v := 0) hx hb hr (fun t ht hW => ⟨⟨_, 0, rfl, rfl, (by dsimp only; rw [ht]; exact Or.inl ⟨rfl, hc0, hO2, hM3⟩)⟩, hS.F ht⟩) hS.2.2 dL_count_16
set_option maxHeartbeats 4000000 in
set_option maxRecDepth 100000 in
theorem c_L_block (l : Launch) (hst : l.stackTraces = false) (cL cD : ClassId) (ao : Nat) (E : wE) (g : Nat → Nat) (ln : Nat) (bf : Nat → Int32) (z : SS) (ke : Nat) (hs : Nat → SS) (x : Int32) : Met l yL_block wsL_block ({ frames := 8, cells := 1, slots := 6, locals := 132 }) (va_Pc [.ref ((g 0)), .int x, .ref ao] (wL E cL cD g ao (fun H => ∃ x, oA cL ao (.long x) H) (MB E g ln bf z ke hs))) (va_Qi (fun (r u : Int32) => r = u) (fun u t => (u = 0 ∧ (vp_in x z.1) ∧ oA cL ao (.long ((z.2.1 x.toNatClampNeg)).toInt64) t.heap ∧ MB E g ln bf z ke hs t.heap) ∨ (u = 1 ∧ (¬ vp_in x z.1) ∧ (∃ x, oA cL ao (.long x) t.heap) ∧ MB E g ln bf z ke hs t.heap)) (wA g ao)) 1 6 (wA g ao) := by
  refine w_ofWH (cc := cL_block) (maxL := 4) (ret := some .int) (hh := [(0, 9, 12, 19)]) (by decide) rfl ?_
  intro p e s m args below meth c s₁ B hml hv
  obtain ⟨rfl, hM, ⟨x0, hO⟩, hK, hKL, hI, hne, hxe, hxc⟩ := hv
  have hx := B.exec
  have hb := B.bytes
  have hr := B.returns
  have hts := atoms_spec (ws := wsL_block) B.pre
  have hown : s.vm.findClass RL = some m.cls := findClass_of_methodNamed B.named
  have hlocks := B.notSynchronized
  have htb := vx_table (x := yL_block) B (hts _ List.mem_cons_self)
  have hS : va_S (wA g ao) s.heap s.heap [] := va_S.rf
  have hz0 : ao < s.heap.size := hO.lt
  have hao : ¬ wF 94 g ao := fun ⟨k, hk, e⟩ => hne k hk e.symm
  have hl := lv_entry ([.ref ((g 0)), .int x, .ref ao]) (n := 4) (Nat.le_of_ble_eq_true rfl)
  rw [lg_entry_eq]
  generalize (lg_sl ([.ref ((g 0)), .int x, .ref ao]) ++ List.replicate (4 - (lg_sl ([.ref ((g 0)), .int x, .ref ao])).length) Slot.unset).toArray = ls at hl ⊢
  have hl : lv_has ls 4 [(0, .ref ((g 0))), (1, .int x), (2, .ref ao)] := hl
  refine lv_aload_n hx hb dL_block_0 rfl (lv_at hl 2 rfl) ?_
  refine lv_iconst (v := 0) hx hb dL_block_1 (by decide) ?_
  refine lv_aload_n hx hb dL_block_2 rfl (lv_at hl 0 rfl) ?_
  refine lv_iload_n hx hb dL_block_3 rfl (lv_at hl 1 rfl) ?_
  refine vx_calli (vx_runV (As := [.int x]) (rest := [.int 0, .ref ao]) ⟨hx, hb, hml, hown, hts⟩ (c_X5_block l hst E g ln bf z ke hs x) (cwV 1 hts gL_block_X5_block rfl rfl rfl (by decide +kernel) ⟨Nat.le_of_ble_eq_true rfl, Nat.le_of_ble_eq_true rfl⟩) ⟨wSx.blind, (w_recv hK hM.main 0 (by decide) rfl (ci := 5) rfl), fun U hU hW => wSx.go hM hK hI hxe hS (fun q h => Or.inl h) hU hW⟩ rfl rfl hl.1 rfl (lv_room (Nat.le_of_ble_eq_true rfl)) dL_block_4 ⟨Nat.le_of_ble_eq_true rfl, Nat.le_of_ble_eq_true rfl⟩) hS (fun q _ h => Or.inl h) (fun q h => Or.inl h) (fun q _ h => Or.inl h) (fun E9 ce9 q9 uu t H_1 locs_1 ht hvm hpx hbx hz1 hk1 hS hc9 hv9 hf9 => ?_) (fun r_1 uu t H_1 locs_1 ht hvm hw hB hz1 hk1 hS => ?_)
  · rw [ht] at hbx
    have hO : oA cL ao _ H_1 := (hk1 ao hz0 hao).trans hO
    obtain ⟨⟨rfl, hcx⟩, hMx⟩ := hbx
    refine vx_catch (own := RL) (name := exB) hown [] ⟨0, 9, 12, 19⟩ [] (htb.trans rfl) (fun z hz => absurd hz List.not_mem_nil) (by decide) (by decide) (hts (.classLink RL 19 exB) (by decide +kernel)) (va_Nw.use rfl hxc.2.1) hc9 hv9 hf9 ?_
    refine W.eq (g2 := F0 m 12 ls [.ref q9]) rfl ?_
    refine lv_astore_n (lv' := [(3, .ref q9), (0, .ref ((g 0))), (1, .int x), (2, .ref ao)]) hx hb dL_block_12 rfl hl (by decide) rfl (fun ls hl => ?_)
    refine lv_iconst (v := 1) hx hb dL_block_13 (by decide) ?_
    exact W.iret (v := 1) hx hb hr (fun t ht hW => ⟨⟨_, 1, rfl, rfl, (by dsimp only; rw [ht]; exact Or.inr (⟨rfl, hcx, ⟨_, hO⟩, hMx⟩))⟩, hS.F ht⟩) hS.2.2 dL_block_14
  rw [ht] at hB
  obtain ⟨hc0, hM2⟩ := hB
  have hO : oA cL ao _ H_1 := (hk1 ao hz0 hao).trans hO
  obtain rfl := hw
  refine lv_i2l hx hb dL_block_7 rfl ?_
  refine w_last hx hb hKL hO (Or.inr rfl) hS dL_block_8 (fun H_2 locs_2 hO2 hz2 ho2 hS => ?_)
  have hM3 := hM2.at (A := fun q => q = ao) (fun q _ h => ho2 q h) hne
  refine lv_goto (tgt := 15) hx hb dL_block_9 rfl ?_
  refine lv_iconst (v := 0) hx hb dL_block_15 (by decide) ?_
  exact W.iret (v := 0) hx hb hr (fun t ht hW => ⟨⟨_, 0, rfl, rfl, (by dsimp only; rw [ht]; exact Or.inl ⟨rfl, hc0, hO2, hM3⟩)⟩, hS.F ht⟩) hS.2.2 dL_block_16
set_option maxHeartbeats 4000000 in
set_option maxRecDepth 100000 in
theorem c_L_ifGot (l : Launch) (hst : l.stackTraces = false) (cL cD : ClassId) (ao : Nat) (E : wE) (g : Nat → Nat) (ln : Nat) (bf : Nat → Int32) (z : SS) (ke : Nat) (hs : Nat → SS) (x y w0 : Int32) : Met l yL_ifGot wsL_ifGot ({ frames := 8, cells := 3, slots := 18, locals := 172 }) (va_Pc [.ref ((g 0)), .int x, .int y, .int w0, .ref ao] (wL E cL cD g ao (fun H => ∃ x, oA cL ao (.long x) H) (MB E g ln bf z ke hs))) (va_Qi (fun (r u : Int32) => r = u) (fun u t => (u = 0 ∧ ((vp_in x 3 ∧ vp_in y 10000 ∧ vp_in w0 2)) ∧ oA cL ao (.long ((if w0.toNatClampNeg = 0 then (getS (mixS z.1 z.2.1 y.toNatClampNeg) (z.2.2.2 x.toNatClampNeg).2).1 else rankQ (getS (mixS z.1 z.2.1 y.toNatClampNeg) (z.2.2.2 x.toNatClampNeg).2).2)).toInt64) t.heap ∧ MB E g ln bf z ke hs t.heap) ∨ (u = 1 ∧ (¬ vp_in x 3) ∧ (∃ x, oA cL ao (.long x) t.heap) ∧ MB E g ln bf z ke hs t.heap) ∨ (u = 2 ∧ (vp_in x 3 ∧ ¬ (vp_in y 10000 ∧ vp_in w0 2)) ∧ (∃ x, oA cL ao (.long x) t.heap) ∧ MB E g ln bf z ke hs t.heap)) (wA g ao)) 3 18 (wA g ao) := by
  refine w_ofWH (cc := cL_ifGot) (maxL := 6) (ret := some .int) (hh := [(0, 12, 15, 19), (0, 12, 19, 13)]) (by decide) rfl ?_
  intro p e s m args below meth c s₁ B hml hv
  obtain ⟨rfl, hM, ⟨x0, hO⟩, hK, hKL, hI, hne, hxe, hxc⟩ := hv
  have hx := B.exec
  have hb := B.bytes
  have hr := B.returns
  have hts := atoms_spec (ws := wsL_ifGot) B.pre
  have hown : s.vm.findClass RL = some m.cls := findClass_of_methodNamed B.named
  have hlocks := B.notSynchronized
  have htb := vx_table (x := yL_ifGot) B (hts _ List.mem_cons_self)
  have hS : va_S (wA g ao) s.heap s.heap [] := va_S.rf
  have hz0 : ao < s.heap.size := hO.lt
  have hao : ¬ wF 94 g ao := fun ⟨k, hk, e⟩ => hne k hk e.symm
  have hl := lv_entry ([.ref ((g 0)), .int x, .int y, .int w0, .ref ao]) (n := 6) (Nat.le_of_ble_eq_true rfl)
  rw [lg_entry_eq]
  generalize (lg_sl ([.ref ((g 0)), .int x, .int y, .int w0, .ref ao]) ++ List.replicate (6 - (lg_sl ([.ref ((g 0)), .int x, .int y, .int w0, .ref ao])).length) Slot.unset).toArray = ls at hl ⊢
  have hl : lv_has ls 6 [(0, .ref ((g 0))), (1, .int x), (2, .int y), (3, .int w0), (4, .ref ao)] := hl
  refine lv_aload hx hb dL_ifGot_0 (lv_at hl 4 rfl) ?_
  refine lv_iconst (v := 0) hx hb dL_ifGot_2 (by decide) ?_
  refine lv_aload_n hx hb dL_ifGot_3 rfl (lv_at hl 0 rfl) ?_
  refine lv_iload_n hx hb dL_ifGot_4 rfl (lv_at hl 1 rfl) ?_
  refine lv_iload_n hx hb dL_ifGot_5 rfl (lv_at hl 2 rfl) ?_
  refine lv_iload_n hx hb dL_ifGot_6 rfl (lv_at hl 3 rfl) ?_
  refine vx_calli (vx_runV (As := [.int x, .int y, .int w0]) (rest := [.int 0, .ref ao]) ⟨hx, hb, hml, hown, hts⟩ (c_X5_ifGot l hst E g ln bf z ke hs x y w0) (cwV 3 hts gL_ifGot_X5_ifGot rfl rfl rfl (by decide +kernel) ⟨Nat.le_of_ble_eq_true rfl, Nat.le_of_ble_eq_true rfl⟩) ⟨wSx.blind, (w_recv hK hM.main 0 (by decide) rfl (ci := 5) rfl), fun U hU hW => wSx.go hM hK hI hxe hS (fun q h => Or.inl h) hU hW⟩ rfl rfl hl.1 rfl (lv_room (Nat.le_of_ble_eq_true rfl)) dL_ifGot_7 ⟨Nat.le_of_ble_eq_true rfl, Nat.le_of_ble_eq_true rfl⟩) hS (fun q _ h => Or.inl h) (fun q h => Or.inl h) (fun q _ h => Or.inl h) (fun E9 ce9 q9 uu t H_1 locs_1 ht hvm hpx hbx hz1 hk1 hS hc9 hv9 hf9 => ?_) (fun r_1 uu t H_1 locs_1 ht hvm hw hB hz1 hk1 hS => ?_)
  · rw [ht] at hbx
    have hO : oA cL ao _ H_1 := (hk1 ao hz0 hao).trans hO
    obtain ⟨⟨rfl, hcx⟩ | ⟨rfl, hcx⟩, hMx⟩ := hbx
    · skip
      refine vx_catch (own := RL) (name := exB) hown [] ⟨0, 12, 15, 19⟩ [⟨0, 12, 19, 13⟩] (htb.trans rfl) (fun z hz => absurd hz List.not_mem_nil) (by decide) (by decide) (hts (.classLink RL 19 exB) (by decide +kernel)) (va_Nw.use rfl hxc.2.1) hc9 hv9 hf9 ?_
      refine W.eq (g2 := F0 m 15 ls [.ref q9]) rfl ?_
      refine lv_astore (lv' := [(5, .ref q9), (0, .ref ((g 0))), (1, .int x), (2, .int y), (3, .int w0), (4, .ref ao)]) hx hb dL_ifGot_15 hl (by decide) rfl (fun ls hl => ?_)
      refine lv_iconst (v := 1) hx hb dL_ifGot_17 (by decide) ?_
      exact W.iret (v := 1) hx hb hr (fun t ht hW => ⟨⟨_, 1, rfl, rfl, (by dsimp only; rw [ht]; exact Or.inr (Or.inl ⟨rfl, hcx, ⟨_, hO⟩, hMx⟩))⟩, hS.F ht⟩) hS.2.2 dL_ifGot_18
    · skip
      refine vx_catch (own := RL) (name := exA) hown [⟨0, 12, 15, 19⟩] ⟨0, 12, 19, 13⟩ [] (htb.trans rfl) (fun z hz => by obtain rfl := List.mem_singleton.mp hz; exact Or.inr ⟨by decide, _, hts (.classLink RL 19 exB) (by decide +kernel), hxc.2.2.2.1⟩) (by decide) (by decide) (hts (.classLink RL 13 exA) (by decide +kernel)) (va_Nw.use rfl hxc.1) hc9 hv9 hf9 ?_
      refine W.eq (g2 := F0 m 19 ls [.ref q9]) rfl ?_
      refine lv_astore (lv' := [(5, .ref q9), (0, .ref ((g 0))), (1, .int x), (2, .int y), (3, .int w0), (4, .ref ao)]) hx hb dL_ifGot_19 hl (by decide) rfl (fun ls hl => ?_)
      refine lv_iconst (v := 2) hx hb dL_ifGot_21 (by decide) ?_
      exact W.iret (v := 2) hx hb hr (fun t ht hW => ⟨⟨_, 2, rfl, rfl, (by dsimp only; rw [ht]; exact Or.inr (Or.inr (⟨rfl, hcx, ⟨_, hO⟩, hMx⟩)))⟩, hS.F ht⟩) hS.2.2 dL_ifGot_22
  rw [ht] at hB
  obtain ⟨hc0, hM2⟩ := hB
  have hO : oA cL ao _ H_1 := (hk1 ao hz0 hao).trans hO
  obtain rfl := hw
  refine lv_i2l hx hb dL_ifGot_10 rfl ?_
  refine w_last hx hb hKL hO (Or.inr rfl) hS dL_ifGot_11 (fun H_2 locs_2 hO2 hz2 ho2 hS => ?_)
  have hM3 := hM2.at (A := fun q => q = ao) (fun q _ h => ho2 q h) hne
  refine lv_goto (tgt := 23) hx hb dL_ifGot_12 rfl ?_
  refine lv_iconst (v := 0) hx hb dL_ifGot_23 (by decide) ?_
  exact W.iret (v := 0) hx hb hr (fun t ht hW => ⟨⟨_, 0, rfl, rfl, (by dsimp only; rw [ht]; exact Or.inl ⟨rfl, hc0, hO2, hM3⟩)⟩, hS.F ht⟩) hS.2.2 dL_ifGot_24
set_option maxHeartbeats 4000000 in
set_option maxRecDepth 100000 in
theorem c_L_helps (l : Launch) (hst : l.stackTraces = false) (cL cD : ClassId) (ao : Nat) (E : wE) (g : Nat → Nat) (ln : Nat) (bf : Nat → Int32) (z : SS) (ke : Nat) (hs : Nat → SS) (x y : Int32) : Met l yL_helps wsL_helps ({ frames := 8, cells := 2, slots := 12, locals := 172 }) (va_Pc [.ref ((g 0)), .int x, .int y, .ref ao] (wL E cL cD g ao (fun H => ∃ x, oA cL ao (.long x) H) (MB E g ln bf z ke hs))) (va_Qi (fun (r u : Int32) => r = u) (fun u t => (u = 0 ∧ ((vp_in x 3 ∧ vp_in y 10000)) ∧ oA cL ao (.long ((nhS (helpB z (z.2.2.2 x.toNatClampNeg)) (nhN y.toNatClampNeg) y.toNatClampNeg)).toInt64) t.heap ∧ MB E g ln bf z ke hs t.heap) ∨ (u = 1 ∧ (¬ vp_in x 3) ∧ (∃ x, oA cL ao (.long x) t.heap) ∧ MB E g ln bf z ke hs t.heap) ∨ (u = 2 ∧ (vp_in x 3 ∧ ¬ (vp_in y 10000)) ∧ (∃ x, oA cL ao (.long x) t.heap) ∧ MB E g ln bf z ke hs t.heap)) (wA g ao)) 2 12 (wA g ao) := by
  refine w_ofWH (cc := cL_helps) (maxL := 5) (ret := some .int) (hh := [(0, 10, 13, 19), (0, 10, 17, 13)]) (by decide) rfl ?_
  intro p e s m args below meth c s₁ B hml hv
  obtain ⟨rfl, hM, ⟨x0, hO⟩, hK, hKL, hI, hne, hxe, hxc⟩ := hv
  have hx := B.exec
  have hb := B.bytes
  have hr := B.returns
  have hts := atoms_spec (ws := wsL_helps) B.pre
  have hown : s.vm.findClass RL = some m.cls := findClass_of_methodNamed B.named
  have hlocks := B.notSynchronized
  have htb := vx_table (x := yL_helps) B (hts _ List.mem_cons_self)
  have hS : va_S (wA g ao) s.heap s.heap [] := va_S.rf
  have hz0 : ao < s.heap.size := hO.lt
  have hao : ¬ wF 94 g ao := fun ⟨k, hk, e⟩ => hne k hk e.symm
  have hl := lv_entry ([.ref ((g 0)), .int x, .int y, .ref ao]) (n := 5) (Nat.le_of_ble_eq_true rfl)
  rw [lg_entry_eq]
  generalize (lg_sl ([.ref ((g 0)), .int x, .int y, .ref ao]) ++ List.replicate (5 - (lg_sl ([.ref ((g 0)), .int x, .int y, .ref ao])).length) Slot.unset).toArray = ls at hl ⊢
  have hl : lv_has ls 5 [(0, .ref ((g 0))), (1, .int x), (2, .int y), (3, .ref ao)] := hl
  refine lv_aload_n hx hb dL_helps_0 rfl (lv_at hl 3 rfl) ?_
  refine lv_iconst (v := 0) hx hb dL_helps_1 (by decide) ?_
  refine lv_aload_n hx hb dL_helps_2 rfl (lv_at hl 0 rfl) ?_
  refine lv_iload_n hx hb dL_helps_3 rfl (lv_at hl 1 rfl) ?_
  refine lv_iload_n hx hb dL_helps_4 rfl (lv_at hl 2 rfl) ?_
  refine vx_calli (vx_runV (As := [.int x, .int y]) (rest := [.int 0, .ref ao]) ⟨hx, hb, hml, hown, hts⟩ (c_X5_helps l hst E g ln bf z ke hs x y) (cwV 2 hts gL_helps_X5_helps rfl rfl rfl (by decide +kernel) ⟨Nat.le_of_ble_eq_true rfl, Nat.le_of_ble_eq_true rfl⟩) ⟨wSx.blind, (w_recv hK hM.main 0 (by decide) rfl (ci := 5) rfl), fun U hU hW => wSx.go hM hK hI hxe hS (fun q h => Or.inl h) hU hW⟩ rfl rfl hl.1 rfl (lv_room (Nat.le_of_ble_eq_true rfl)) dL_helps_5 ⟨Nat.le_of_ble_eq_true rfl, Nat.le_of_ble_eq_true rfl⟩) hS (fun q _ h => Or.inl h) (fun q h => Or.inl h) (fun q _ h => Or.inl h) (fun E9 ce9 q9 uu t H_1 locs_1 ht hvm hpx hbx hz1 hk1 hS hc9 hv9 hf9 => ?_) (fun r_1 uu t H_1 locs_1 ht hvm hw hB hz1 hk1 hS => ?_)
  · rw [ht] at hbx
    have hO : oA cL ao _ H_1 := (hk1 ao hz0 hao).trans hO
    obtain ⟨⟨rfl, hcx⟩ | ⟨rfl, hcx⟩, hMx⟩ := hbx
    · skip
      refine vx_catch (own := RL) (name := exB) hown [] ⟨0, 10, 13, 19⟩ [⟨0, 10, 17, 13⟩] (htb.trans rfl) (fun z hz => absurd hz List.not_mem_nil) (by decide) (by decide) (hts (.classLink RL 19 exB) (by decide +kernel)) (va_Nw.use rfl hxc.2.1) hc9 hv9 hf9 ?_
      refine W.eq (g2 := F0 m 13 ls [.ref q9]) rfl ?_
      refine lv_astore (lv' := [(4, .ref q9), (0, .ref ((g 0))), (1, .int x), (2, .int y), (3, .ref ao)]) hx hb dL_helps_13 hl (by decide) rfl (fun ls hl => ?_)
      refine lv_iconst (v := 1) hx hb dL_helps_15 (by decide) ?_
      exact W.iret (v := 1) hx hb hr (fun t ht hW => ⟨⟨_, 1, rfl, rfl, (by dsimp only; rw [ht]; exact Or.inr (Or.inl ⟨rfl, hcx, ⟨_, hO⟩, hMx⟩))⟩, hS.F ht⟩) hS.2.2 dL_helps_16
    · skip
      refine vx_catch (own := RL) (name := exA) hown [⟨0, 10, 13, 19⟩] ⟨0, 10, 17, 13⟩ [] (htb.trans rfl) (fun z hz => by obtain rfl := List.mem_singleton.mp hz; exact Or.inr ⟨by decide, _, hts (.classLink RL 19 exB) (by decide +kernel), hxc.2.2.2.1⟩) (by decide) (by decide) (hts (.classLink RL 13 exA) (by decide +kernel)) (va_Nw.use rfl hxc.1) hc9 hv9 hf9 ?_
      refine W.eq (g2 := F0 m 17 ls [.ref q9]) rfl ?_
      refine lv_astore (lv' := [(4, .ref q9), (0, .ref ((g 0))), (1, .int x), (2, .int y), (3, .ref ao)]) hx hb dL_helps_17 hl (by decide) rfl (fun ls hl => ?_)
      refine lv_iconst (v := 2) hx hb dL_helps_19 (by decide) ?_
      exact W.iret (v := 2) hx hb hr (fun t ht hW => ⟨⟨_, 2, rfl, rfl, (by dsimp only; rw [ht]; exact Or.inr (Or.inr (⟨rfl, hcx, ⟨_, hO⟩, hMx⟩)))⟩, hS.F ht⟩) hS.2.2 dL_helps_20
  rw [ht] at hB
  obtain ⟨hc0, hM2⟩ := hB
  have hO : oA cL ao _ H_1 := (hk1 ao hz0 hao).trans hO
  obtain rfl := hw
  refine lv_i2l hx hb dL_helps_8 rfl ?_
  refine w_last hx hb hKL hO (Or.inr rfl) hS dL_helps_9 (fun H_2 locs_2 hO2 hz2 ho2 hS => ?_)
  have hM3 := hM2.at (A := fun q => q = ao) (fun q _ h => ho2 q h) hne
  refine lv_goto (tgt := 21) hx hb dL_helps_10 rfl ?_
  refine lv_iconst (v := 0) hx hb dL_helps_21 (by decide) ?_
  exact W.iret (v := 0) hx hb hr (fun t ht hW => ⟨⟨_, 0, rfl, rfl, (by dsimp only; rw [ht]; exact Or.inl ⟨rfl, hc0, hO2, hM3⟩)⟩, hS.F ht⟩) hS.2.2 dL_helps_22
set_option maxHeartbeats 4000000 in
set_option maxRecDepth 100000 in
theorem c_L_needs (l : Launch) (hst : l.stackTraces = false) (cL cD : ClassId) (ao : Nat) (E : wE) (g : Nat → Nat) (ln : Nat) (bf : Nat → Int32) (z : SS) (ke : Nat) (hs : Nat → SS) (x y : Int32) (bb : Bool) : Met l yL_needs wsL_needs ({ frames := 8, cells := 2, slots := 12, locals := 174 }) (va_Pc [.ref ((g 0)), .int x, .int y, .int ((bI bb)), .ref ao] (wL E cL cD g ao (fun H => ∃ x, oA cL ao (.long x) H) (MB E g ln bf z ke hs))) (va_Qi (fun (r u : Int32) => r = u) (fun u t => (u = 0 ∧ ((vp_in x 3 ∧ vp_in y 9900)) ∧ oA cL ao (.long ((ndS z y.toNatClampNeg bb 100 0 (z.2.2.2 x.toNatClampNeg).2)).toInt64) t.heap ∧ MB E g ln bf z ke hs t.heap) ∨ (u = 1 ∧ (¬ vp_in x 3) ∧ (∃ x, oA cL ao (.long x) t.heap) ∧ MB E g ln bf z ke hs t.heap) ∨ (u = 2 ∧ (vp_in x 3 ∧ ¬ (vp_in y 9900)) ∧ (∃ x, oA cL ao (.long x) t.heap) ∧ MB E g ln bf z ke hs t.heap)) (wA g ao)) 2 12 (wA g ao) := by
  refine w_ofWH (cc := cL_needs) (maxL := 6) (ret := some .int) (hh := [(0, 12, 15, 19), (0, 12, 19, 13)]) (by decide) rfl ?_
  intro p e s m args below meth c s₁ B hml hv
  obtain ⟨rfl, hM, ⟨x0, hO⟩, hK, hKL, hI, hne, hxe, hxc⟩ := hv
  have hx := B.exec
  have hb := B.bytes
  have hr := B.returns
  have hts := atoms_spec (ws := wsL_needs) B.pre
  have hown : s.vm.findClass RL = some m.cls := findClass_of_methodNamed B.named
  have hlocks := B.notSynchronized
  have htb := vx_table (x := yL_needs) B (hts _ List.mem_cons_self)
  have hS : va_S (wA g ao) s.heap s.heap [] := va_S.rf
  have hz0 : ao < s.heap.size := hO.lt
  have hao : ¬ wF 94 g ao := fun ⟨k, hk, e⟩ => hne k hk e.symm
  have hl := lv_entry ([.ref ((g 0)), .int x, .int y, .int ((bI bb)), .ref ao]) (n := 6) (Nat.le_of_ble_eq_true rfl)
  rw [lg_entry_eq]
  generalize (lg_sl ([.ref ((g 0)), .int x, .int y, .int ((bI bb)), .ref ao]) ++ List.replicate (6 - (lg_sl ([.ref ((g 0)), .int x, .int y, .int ((bI bb)), .ref ao])).length) Slot.unset).toArray = ls at hl ⊢
  have hl : lv_has ls 6 [(0, .ref ((g 0))), (1, .int x), (2, .int y), (3, .int ((bI bb))), (4, .ref ao)] := hl
  refine lv_aload hx hb dL_needs_0 (lv_at hl 4 rfl) ?_
  refine lv_iconst (v := 0) hx hb dL_needs_2 (by decide) ?_
  refine lv_aload_n hx hb dL_needs_3 rfl (lv_at hl 0 rfl) ?_
  refine lv_iload_n hx hb dL_needs_4 rfl (lv_at hl 1 rfl) ?_
  refine lv_iload_n hx hb dL_needs_5 rfl (lv_at hl 2 rfl) ?_
  refine lv_iload_n hx hb dL_needs_6 rfl (lv_at hl 3 rfl) ?_
  refine vx_calli (vx_runV (As := [.int x, .int y, .int ((bI bb))]) (rest := [.int 0, .ref ao]) ⟨hx, hb, hml, hown, hts⟩ (c_X5_needs l hst E g ln bf z ke hs x y bb) (cwV 3 hts gL_needs_X5_needs rfl rfl rfl (by decide +kernel) ⟨Nat.le_of_ble_eq_true rfl, Nat.le_of_ble_eq_true rfl⟩) ⟨wSx.blind, (w_recv hK hM.main 0 (by decide) rfl (ci := 5) rfl), fun U hU hW => wSx.go hM hK hI hxe hS (fun q h => Or.inl h) hU hW⟩ rfl rfl hl.1 rfl (lv_room (Nat.le_of_ble_eq_true rfl)) dL_needs_7 ⟨Nat.le_of_ble_eq_true rfl, Nat.le_of_ble_eq_true rfl⟩) hS (fun q _ h => Or.inl h) (fun q h => Or.inl h) (fun q _ h => Or.inl h) (fun E9 ce9 q9 uu t H_1 locs_1 ht hvm hpx hbx hz1 hk1 hS hc9 hv9 hf9 => ?_) (fun r_1 uu t H_1 locs_1 ht hvm hw hB hz1 hk1 hS => ?_)
  · rw [ht] at hbx
    have hO : oA cL ao _ H_1 := (hk1 ao hz0 hao).trans hO
    obtain ⟨⟨rfl, hcx⟩ | ⟨rfl, hcx⟩, hMx⟩ := hbx
    · skip
      refine vx_catch (own := RL) (name := exB) hown [] ⟨0, 12, 15, 19⟩ [⟨0, 12, 19, 13⟩] (htb.trans rfl) (fun z hz => absurd hz List.not_mem_nil) (by decide) (by decide) (hts (.classLink RL 19 exB) (by decide +kernel)) (va_Nw.use rfl hxc.2.1) hc9 hv9 hf9 ?_
      refine W.eq (g2 := F0 m 15 ls [.ref q9]) rfl ?_
      refine lv_astore (lv' := [(5, .ref q9), (0, .ref ((g 0))), (1, .int x), (2, .int y), (3, .int ((bI bb))), (4, .ref ao)]) hx hb dL_needs_15 hl (by decide) rfl (fun ls hl => ?_)
      refine lv_iconst (v := 1) hx hb dL_needs_17 (by decide) ?_
      exact W.iret (v := 1) hx hb hr (fun t ht hW => ⟨⟨_, 1, rfl, rfl, (by dsimp only; rw [ht]; exact Or.inr (Or.inl ⟨rfl, hcx, ⟨_, hO⟩, hMx⟩))⟩, hS.F ht⟩) hS.2.2 dL_needs_18
    · skip
      refine vx_catch (own := RL) (name := exA) hown [⟨0, 12, 15, 19⟩] ⟨0, 12, 19, 13⟩ [] (htb.trans rfl) (fun z hz => by obtain rfl := List.mem_singleton.mp hz; exact Or.inr ⟨by decide, _, hts (.classLink RL 19 exB) (by decide +kernel), hxc.2.2.2.1⟩) (by decide) (by decide) (hts (.classLink RL 13 exA) (by decide +kernel)) (va_Nw.use rfl hxc.1) hc9 hv9 hf9 ?_
      refine W.eq (g2 := F0 m 19 ls [.ref q9]) rfl ?_
      refine lv_astore (lv' := [(5, .ref q9), (0, .ref ((g 0))), (1, .int x), (2, .int y), (3, .int ((bI bb))), (4, .ref ao)]) hx hb dL_needs_19 hl (by decide) rfl (fun ls hl => ?_)
      refine lv_iconst (v := 2) hx hb dL_needs_21 (by decide) ?_
      exact W.iret (v := 2) hx hb hr (fun t ht hW => ⟨⟨_, 2, rfl, rfl, (by dsimp only; rw [ht]; exact Or.inr (Or.inr (⟨rfl, hcx, ⟨_, hO⟩, hMx⟩)))⟩, hS.F ht⟩) hS.2.2 dL_needs_22
  rw [ht] at hB
  obtain ⟨hc0, hM2⟩ := hB
  have hO : oA cL ao _ H_1 := (hk1 ao hz0 hao).trans hO
  obtain rfl := hw
  refine lv_i2l hx hb dL_needs_10 rfl ?_
  refine w_last hx hb hKL hO (Or.inr rfl) hS dL_needs_11 (fun H_2 locs_2 hO2 hz2 ho2 hS => ?_)
  have hM3 := hM2.at (A := fun q => q = ao) (fun q _ h => ho2 q h) hne
  refine lv_goto (tgt := 23) hx hb dL_needs_12 rfl ?_
  refine lv_iconst (v := 0) hx hb dL_needs_23 (by decide) ?_
  exact W.iret (v := 0) hx hb hr (fun t ht hW => ⟨⟨_, 0, rfl, rfl, (by dsimp only; rw [ht]; exact Or.inl ⟨rfl, hc0, hO2, hM3⟩)⟩, hS.F ht⟩) hS.2.2 dL_needs_24
set_option maxHeartbeats 4000000 in
set_option maxRecDepth 100000 in
theorem c_L_ifEliminated (l : Launch) (hst : l.stackTraces = false) (cL cD : ClassId) (ao : Nat) (E : wE) (g : Nat → Nat) (ln : Nat) (bf : Nat → Int32) (z : SS) (ke : Nat) (hs : Nat → SS) (x : Int32) : Met l yL_ifEliminated wsL_ifEliminated ({ frames := 8, cells := 1, slots := 6, locals := 151 }) (va_Pc [.ref ((g 0)), .int x, .ref ao] (wL E cL cD g ao (fun H => ∃ x, oA cL ao (.long x) H) (MB E g ln bf z ke hs))) (va_Qi (fun (r u : Int32) => r = u) (fun u t => (u = 0 ∧ (vp_in x 3) ∧ oA cL ao (.long (((findS (z.2.2.2 x.toNatClampNeg).2).2.2.2.2)).toInt64) t.heap ∧ MB E g ln bf z ke hs t.heap) ∨ (u = 1 ∧ (¬ vp_in x 3) ∧ (∃ x, oA cL ao (.long x) t.heap) ∧ MB E g ln bf z ke hs t.heap)) (wA g ao)) 1 6 (wA g ao) := by
  refine w_ofWH (cc := cL_ifEliminated) (maxL := 4) (ret := some .int) (hh := [(0, 9, 12, 19)]) (by decide) rfl ?_
  intro p e s m args below meth c s₁ B hml hv
  obtain ⟨rfl, hM, ⟨x0, hO⟩, hK, hKL, hI, hne, hxe, hxc⟩ := hv
  have hx := B.exec
  have hb := B.bytes
  have hr := B.returns
  have hts := atoms_spec (ws := wsL_ifEliminated) B.pre
  have hown : s.vm.findClass RL = some m.cls := findClass_of_methodNamed B.named
  have hlocks := B.notSynchronized
  have htb := vx_table (x := yL_ifEliminated) B (hts _ List.mem_cons_self)
  have hS : va_S (wA g ao) s.heap s.heap [] := va_S.rf
  have hz0 : ao < s.heap.size := hO.lt
  have hao : ¬ wF 94 g ao := fun ⟨k, hk, e⟩ => hne k hk e.symm
  have hl := lv_entry ([.ref ((g 0)), .int x, .ref ao]) (n := 4) (Nat.le_of_ble_eq_true rfl)
  rw [lg_entry_eq]
  generalize (lg_sl ([.ref ((g 0)), .int x, .ref ao]) ++ List.replicate (4 - (lg_sl ([.ref ((g 0)), .int x, .ref ao])).length) Slot.unset).toArray = ls at hl ⊢
  have hl : lv_has ls 4 [(0, .ref ((g 0))), (1, .int x), (2, .ref ao)] := hl
  refine lv_aload_n hx hb dL_ifEliminated_0 rfl (lv_at hl 2 rfl) ?_
  refine lv_iconst (v := 0) hx hb dL_ifEliminated_1 (by decide) ?_
  refine lv_aload_n hx hb dL_ifEliminated_2 rfl (lv_at hl 0 rfl) ?_
  refine lv_iload_n hx hb dL_ifEliminated_3 rfl (lv_at hl 1 rfl) ?_
  refine vx_calli (vx_runV (As := [.int x]) (rest := [.int 0, .ref ao]) ⟨hx, hb, hml, hown, hts⟩ (c_X5_ifEliminated l hst E g ln bf z ke hs x) (cwV 1 hts gL_ifEliminated_X5_ifEliminated rfl rfl rfl (by decide +kernel) ⟨Nat.le_of_ble_eq_true rfl, Nat.le_of_ble_eq_true rfl⟩) ⟨wSx.blind, (w_recv hK hM.main 0 (by decide) rfl (ci := 5) rfl), fun U hU hW => wSx.go hM hK hI hxe hS (fun q h => Or.inl h) hU hW⟩ rfl rfl hl.1 rfl (lv_room (Nat.le_of_ble_eq_true rfl)) dL_ifEliminated_4 ⟨Nat.le_of_ble_eq_true rfl, Nat.le_of_ble_eq_true rfl⟩) hS (fun q _ h => Or.inl h) (fun q h => Or.inl h) (fun q _ h => Or.inl h) (fun E9 ce9 q9 uu t H_1 locs_1 ht hvm hpx hbx hz1 hk1 hS hc9 hv9 hf9 => ?_) (fun r_1 uu t H_1 locs_1 ht hvm hw hB hz1 hk1 hS => ?_)
  · rw [ht] at hbx
    have hO : oA cL ao _ H_1 := (hk1 ao hz0 hao).trans hO
    obtain ⟨⟨rfl, hcx⟩, hMx⟩ := hbx
    refine vx_catch (own := RL) (name := exB) hown [] ⟨0, 9, 12, 19⟩ [] (htb.trans rfl) (fun z hz => absurd hz List.not_mem_nil) (by decide) (by decide) (hts (.classLink RL 19 exB) (by decide +kernel)) (va_Nw.use rfl hxc.2.1) hc9 hv9 hf9 ?_
    refine W.eq (g2 := F0 m 12 ls [.ref q9]) rfl ?_
    refine lv_astore_n (lv' := [(3, .ref q9), (0, .ref ((g 0))), (1, .int x), (2, .ref ao)]) hx hb dL_ifEliminated_12 rfl hl (by decide) rfl (fun ls hl => ?_)
    refine lv_iconst (v := 1) hx hb dL_ifEliminated_13 (by decide) ?_
    exact W.iret (v := 1) hx hb hr (fun t ht hW => ⟨⟨_, 1, rfl, rfl, (by dsimp only; rw [ht]; exact Or.inr (⟨rfl, hcx, ⟨_, hO⟩, hMx⟩))⟩, hS.F ht⟩) hS.2.2 dL_ifEliminated_14
  rw [ht] at hB
  obtain ⟨hc0, hM2⟩ := hB
  have hO : oA cL ao _ H_1 := (hk1 ao hz0 hao).trans hO
  obtain rfl := hw
  refine lv_i2l hx hb dL_ifEliminated_7 rfl ?_
  refine w_last hx hb hKL hO (Or.inr rfl) hS dL_ifEliminated_8 (fun H_2 locs_2 hO2 hz2 ho2 hS => ?_)
  have hM3 := hM2.at (A := fun q => q = ao) (fun q _ h => ho2 q h) hne
  refine lv_goto (tgt := 15) hx hb dL_ifEliminated_9 rfl ?_
  refine lv_iconst (v := 0) hx hb dL_ifEliminated_15 (by decide) ?_
  exact W.iret (v := 0) hx hb hr (fun t ht hW => ⟨⟨_, 0, rfl, rfl, (by dsimp only; rw [ht]; exact Or.inl ⟨rfl, hc0, hO2, hM3⟩)⟩, hS.F ht⟩) hS.2.2 dL_ifEliminated_16
set_option maxHeartbeats 4000000 in
set_option maxRecDepth 100000 in
theorem c_L_use (l : Launch) (hst : l.stackTraces = false) (cL cD : ClassId) (ao : Nat) (E : wE) (g : Nat → Nat) (ln : Nat) (bf : Nat → Int32) (z : SS) (ke : Nat) (hs : Nat → SS) (x : Int32) : Met l yL_use wsL_use ({ frames := 8, cells := 1, slots := 6, locals := 133 }) (va_Pc [.ref ((g 0)), .int x, .ref ao] (wL E cL cD g ao (fun H => ∃ x, oA cD ao (.double x) H) (MB E g ln bf z ke hs))) (va_Qi (fun (r u : Int32) => r = u) (fun u t => (u = 0 ∧ (vp_in x 3) ∧ oA cD ao (.double (shF (z.2.2.2 x.toNatClampNeg).2.2.2.2.1 (z.2.2.2 x.toNatClampNeg).2.2.2.2.2.1 (z.2.2.2 x.toNatClampNeg).2.2.2.2.2.2)) t.heap ∧ MB E g ln bf z ke hs t.heap) ∨ (u = 1 ∧ (¬ vp_in x 3) ∧ (∃ x, oA cD ao (.double x) t.heap) ∧ MB E g ln bf z ke hs t.heap)) (wA g ao)) 1 6 (wA g ao) := by
  refine w_ofWH (cc := cL_use) (maxL := 4) (ret := some .int) (hh := [(0, 8, 11, 19)]) (by decide) rfl ?_
  intro p e s m args below meth c s₁ B hml hv
  obtain ⟨rfl, hM, ⟨x0, hO⟩, hK, hKL, hI, hne, hxe, hxc⟩ := hv
  have hx := B.exec
  have hb := B.bytes
  have hr := B.returns
  have hts := atoms_spec (ws := wsL_use) B.pre
  have hown : s.vm.findClass RL = some m.cls := findClass_of_methodNamed B.named
  have hlocks := B.notSynchronized
  have htb := vx_table (x := yL_use) B (hts _ List.mem_cons_self)
  have hS : va_S (wA g ao) s.heap s.heap [] := va_S.rf
  have hz0 : ao < s.heap.size := hO.lt
  have hao : ¬ wF 94 g ao := fun ⟨k, hk, e⟩ => hne k hk e.symm
  have hl := lv_entry ([.ref ((g 0)), .int x, .ref ao]) (n := 4) (Nat.le_of_ble_eq_true rfl)
  rw [lg_entry_eq]
  generalize (lg_sl ([.ref ((g 0)), .int x, .ref ao]) ++ List.replicate (4 - (lg_sl ([.ref ((g 0)), .int x, .ref ao])).length) Slot.unset).toArray = ls at hl ⊢
  have hl : lv_has ls 4 [(0, .ref ((g 0))), (1, .int x), (2, .ref ao)] := hl
  refine lv_aload_n hx hb dL_use_0 rfl (lv_at hl 2 rfl) ?_
  refine lv_iconst (v := 0) hx hb dL_use_1 (by decide) ?_
  refine lv_aload_n hx hb dL_use_2 rfl (lv_at hl 0 rfl) ?_
  refine lv_iload_n hx hb dL_use_3 rfl (lv_at hl 1 rfl) ?_
  refine vx_calld (vx_runV (As := [.int x]) (rest := [.int 0, .ref ao]) ⟨hx, hb, hml, hown, hts⟩ (c_X5_use l hst E g ln bf z ke hs x) (cwV 1 hts gL_use_X5_use rfl rfl rfl (by decide +kernel) ⟨Nat.le_of_ble_eq_true rfl, Nat.le_of_ble_eq_true rfl⟩) ⟨wSx.blind, (w_recv hK hM.main 0 (by decide) rfl (ci := 5) rfl), fun U hU hW => wSx.go hM hK hI hxe hS (fun q h => Or.inl h) hU hW⟩ rfl rfl hl.1 rfl (lv_room (Nat.le_of_ble_eq_true rfl)) dL_use_4 ⟨Nat.le_of_ble_eq_true rfl, Nat.le_of_ble_eq_true rfl⟩) hS (fun q _ h => Or.inl h) (fun q h => Or.inl h) (fun q _ h => Or.inl h) (fun E9 ce9 q9 uu t H_1 locs_1 ht hvm hpx hbx hz1 hk1 hS hc9 hv9 hf9 => ?_) (fun r_1 uu t H_1 locs_1 ht hvm hw hB hz1 hk1 hS => ?_)
  · rw [ht] at hbx
    have hO : oA cD ao _ H_1 := (hk1 ao hz0 hao).trans hO
    obtain ⟨⟨rfl, hcx⟩, hMx⟩ := hbx
    refine vx_catch (own := RL) (name := exB) hown [] ⟨0, 8, 11, 19⟩ [] (htb.trans rfl) (fun z hz => absurd hz List.not_mem_nil) (by decide) (by decide) (hts (.classLink RL 19 exB) (by decide +kernel)) (va_Nw.use rfl hxc.2.1) hc9 hv9 hf9 ?_
    refine W.eq (g2 := F0 m 11 ls [.ref q9]) rfl ?_
    refine lv_astore_n (lv' := [(3, .ref q9), (0, .ref ((g 0))), (1, .int x), (2, .ref ao)]) hx hb dL_use_11 rfl hl (by decide) rfl (fun ls hl => ?_)
    refine lv_iconst (v := 1) hx hb dL_use_12 (by decide) ?_
    exact W.iret (v := 1) hx hb hr (fun t ht hW => ⟨⟨_, 1, rfl, rfl, (by dsimp only; rw [ht]; exact Or.inr (⟨rfl, hcx, ⟨_, hO⟩, hMx⟩))⟩, hS.F ht⟩) hS.2.2 dL_use_13
  rw [ht] at hB
  obtain ⟨hc0, hM2⟩ := hB
  have hO : oA cD ao _ H_1 := (hk1 ao hz0 hao).trans hO
  obtain rfl := hw
  refine w_dast hx hb hKL hO (Or.inr rfl) hS dL_use_7 (fun H_2 locs_2 hO2 hz2 ho2 hS => ?_)
  have hM3 := hM2.at (A := fun q => q = ao) (fun q _ h => ho2 q h) hne
  refine lv_goto (tgt := 14) hx hb dL_use_8 rfl ?_
  refine lv_iconst (v := 0) hx hb dL_use_14 (by decide) ?_
  exact W.iret (v := 0) hx hb hr (fun t ht hW => ⟨⟨_, 0, rfl, rfl, (by dsimp only; rw [ht]; exact Or.inl ⟨rfl, hc0, hO2, hM3⟩)⟩, hS.F ht⟩) hS.2.2 dL_use_15

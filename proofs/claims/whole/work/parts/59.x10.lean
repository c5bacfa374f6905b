set_option maxHeartbeats 4000000 in
set_option maxRecDepth 100000 in
theorem c_X5_hashed (l : Launch) (h0 v0 : Int64) : Met l yX5_hashed wsX5_hashed ({ frames := 0, cells := 0, slots := 0, locals := 0 }) (va_Pc [.long h0, .long v0] (fun _ => True)) (va_Ql (fun (r : Int64) (_ : Unit) => r = (31 * h0 + v0)) (fun _ t => True) wN) 0 0 wN := by
  refine Met.ofW (cc := cX5_hashed) (maxL := 4) (ret := (some .long)) (by decide) rfl ?_
  intro p e s m args below meth c s₁ B hml hv
  obtain ⟨rfl, -⟩ := hv
  have hx := B.exec
  have hb := B.bytes
  have hr := B.returns
  have hts := atoms_spec (ws := wsX5_hashed) B.pre
  have hown : s.vm.findClass RX5 = some m.cls := findClass_of_methodNamed B.named
  have hlocks := B.notSynchronized
  have hS : va_S wN s.heap s.heap [] := va_S.rf
  have hl := lv_entry ([.long h0, .long v0]) (n := 4) (Nat.le_of_ble_eq_true rfl)
  rw [lg_entry_eq]
  generalize (lg_sl ([.long h0, .long v0]) ++ List.replicate (4 - (lg_sl ([.long h0, .long v0])).length) Slot.unset).toArray = ls at hl ⊢
  have hl : lv_has ls 4 [(0, .long h0), (2, .long v0)] := hl
  refine lv_ldc2 hx hb hown (hts (.constantLong RX5 294 (31)) (List.mem_of_getElem? (i := 1) rfl)) dX5_hashed_0 ?_
  refine lv_lload_n hx hb dX5_hashed_3 rfl (lv_at hl 0 rfl) ?_
  refine lv_lmul hx hb dX5_hashed_4 ?_
  refine lv_lload_n hx hb dX5_hashed_5 rfl (lv_at hl 1 rfl) ?_
  refine lv_ladd hx hb dX5_hashed_6 ?_
  exact W.lret (v := ((31 * h0) + v0)) hx hb hr (fun t ht hW => ⟨⟨_, (), rfl, rfl, trivial⟩, hS.F ht⟩) hS.2.2 dX5_hashed_7

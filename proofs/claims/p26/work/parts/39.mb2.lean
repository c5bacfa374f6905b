/-- what stands is not touched by new cells -/
theorem MB.keep {E : wE} {g : Nat → Nat} {ln : Nat} {bf : Nat → Int32} {z : SS} {ke : Nat} {hs : Nat → SS} {H H1 : Heap} (h : MB E g ln bf z ke hs H) (hk : ∀ q : Nat, q < H.size → H1[q]? = H[q]?) : MB E g ln bf z ke hs H1 := by
  obtain ⟨ol, zs, hr, hM, ⟨⟨pa, hPa⟩, ⟨el, hEl⟩, ⟨tli, tq, hTr⟩⟩, hN, hHi, hHs⟩ := h
  have hk1 : ∀ q : Nat, q < H.size → ¬ wN q → H1[q]? = H[q]? := fun q hq _ => hk q hq
  exact ⟨ol, zs, hr, hM.same hk1, ⟨⟨pa, hPa.same hk1⟩, ⟨el, hEl.same hk1⟩, ⟨tli, tq, hTr.same hk1⟩⟩, stP.same hN hk1, hHi.same hk1, hHs.same hk1⟩
theorem MB.new {E : wE} {g : Nat → Nat} {ln : Nat} {bf : Nat → Int32} {z : SS} {ke : Nat} {hs : Nat → SS} {H : Heap} (h : MB E g ln bf z ke hs H) {t : State} (hk : ∀ q : Nat, q < H.size → t.heap[q]? = H[q]?) : MB E g ln bf z ke hs t.heap := h.keep hk

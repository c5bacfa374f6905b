/-! rows and facts for the law's methods -/
section LWB
variable {p : Program} {l : Launch} {e : Env} {R : Room} {s : State} {m : MethodId} {args : Array Value} {below : List Frame} {meth : Method} {c : Code} {H : Heap} {locs : List Loc} {cells slots : Nat} {Q : State → Prop} {cc : ByteArray} {pc : Nat} {ls : Array Slot} {rest : List Value}
theorem lv_beq {x y : Int32} (hx : p.tables.exec = Jvm.exec) (hb : c.code = cc) (d1 : decode cc pc = .ok (.if_icmp .ne 7, 3)) (d2 : decode cc (pc + 3) = .ok (.iconst 1, 1)) (d3 : decode cc (pc + 4) = .ok (.goto 4, 3)) (d4 : decode cc (pc + 7) = .ok (.iconst 0, 1))
    (kk : W p l e R s m args below meth c H locs cells slots Q (F0 m (pc + 8) ls (.int (bI (decide (x = y))) :: rest))) : W p l e R s m args below meth c H locs cells slots Q (F0 m pc ls (.int y :: .int x :: rest)) := by
  refine lv_icmp_ne (tgt := pc + 7) hx hb d1 (by omega) (fun h => ?_) (fun h => ?_)
  · rw [show bI (decide (x = y)) = 0 by rw [decide_eq_false h]; rfl] at kk
    exact lv_iconst (v := 0) hx hb d4 (by decide) kk
  · rw [show bI (decide (x = y)) = 1 by rw [decide_eq_true h]; rfl] at kk
    refine lv_iconst (v := 1) hx hb d2 (by decide) ?_
    exact lv_goto (tgt := pc + 8) hx hb d3 (by omega) kk
theorem lv_bz {x : Int32} (hx : p.tables.exec = Jvm.exec) (hb : c.code = cc) (d1 : decode cc pc = .ok (.ifCond .ne 7, 3)) (d2 : decode cc (pc + 3) = .ok (.iconst 1, 1)) (d3 : decode cc (pc + 4) = .ok (.goto 4, 3)) (d4 : decode cc (pc + 7) = .ok (.iconst 0, 1))
    (kk : W p l e R s m args below meth c H locs cells slots Q (F0 m (pc + 8) ls (.int (bI (decide (x = 0))) :: rest))) : W p l e R s m args below meth c H locs cells slots Q (F0 m pc ls (.int x :: rest)) := by
  refine lv_if_ne (tgt := pc + 7) hx hb d1 (by omega) (fun h => ?_) (fun h => ?_)
  · rw [show bI (decide (x = 0)) = 0 by rw [decide_eq_false h]; rfl] at kk
    exact lv_iconst (v := 0) hx hb d4 (by decide) kk
  · rw [show bI (decide (x = 0)) = 1 by rw [decide_eq_true h]; rfl] at kk
    refine lv_iconst (v := 1) hx hb d2 (by decide) ?_
    exact lv_goto (tgt := pc + 8) hx hb d3 (by omega) kk
end LWB
theorem bI_one (b : Bool) : decide (bI b = nI 1) = b := by cases b <;> decide
theorem dn_eq {nb K : Nat} (hn : nb ≤ 12) (hK : K < 2 ^ nb) : bI (decide (bI (decide (K = 2 ^ nb - 1)) = nI 1)) = bI (decide (nI (pc K) = nI nb)) := by
  rw [bI_one]
  congr 1
  have := pc_nb hn hK
  exact decide_eq_decide.mpr (by rw [nI_eq (by omega) (by omega)]; exact (pc_done hn hK).symm)
theorem itr_snoc {σ : Type} (f : Nat → σ → σ) (n i : Nat) (s : σ) : itr f (n + 1) i s = f (i + n) (itr f n i s) := by
  rw [itr_add]
  rfl
/-- the xor of the blocks of a mask, as far as the block b -/
def vlP (va : Nat → Int32) (m b : Nat) : Int32 := itr (fun b v => v ^^^ (if m.testBit b = true then va b else 0)) b 0 0
theorem vlP_s (va : Nat → Int32) (m b : Nat) : vlP va m b ^^^ (if m.testBit b = true then va b else 0) = vlP va m (b + 1) := by
  unfold vlP
  rw [itr_snoc, Nat.zero_add]
theorem vlP_y {va : Nat → Int32} {m b : Nat} (h : bN m b = 1) : vlP va m b ^^^ va b = vlP va m (b + 1) := by
  rw [← vlP_s, if_pos]
  rw [bN_t] at h
  cases q : m.testBit b
  · rw [q] at h; exact absurd h (by decide)
  · rfl
theorem vlP_n {va : Nat → Int32} {m b : Nat} (h : ¬ bN m b = 1) : vlP va m b ^^^ nI 0 = vlP va m (b + 1) := by
  rw [← vlP_s, if_neg]
  · rfl
  · intro q
    rw [bN_t, q] at h
    exact h rfl
theorem knM_y {va : Nat → Int32} {K b : Nat} (h : bN K b = 1) : knM va K b = va b := by
  unfold knM
  rw [if_pos]
  rw [bN_t] at h
  cases q : K.testBit b
  · rw [q] at h; exact absurd h (by decide)
  · rfl
theorem knM_n {va : Nat → Int32} {K b : Nat} (h : ¬ bN K b = 1) : knM va K b = -1 := by
  unfold knM
  rw [if_neg]
  intro q
  rw [bN_t, q] at h
  exact h rfl
theorem shr_bit {m b : Nat} (hm : m < 2 ^ 31) (hb : b < 32) : ((nI m) >>> ((nI b) &&& 31)) &&& (nI 1) = nI (bN m b) := bN_I hm hb
theorem shl_one {b : Nat} (h : b < 31) : (nI 1) <<< ((nI b) &&& 31) = nI (2 ^ b) := shl1 h
theorem push_top (ke : Nat) (hs : Nat → SS) (z : SS) (h6 : ke ≤ 6) : 0 < kpK ke ∧ kpK ke ≤ 6 ∧ pushH ke hs z (kpK ke - 1) = z := by
  unfold kpK pushH
  by_cases c : ke < 6
  · rw [if_pos c, if_pos c]
    exact ⟨Nat.succ_pos ke, c, va_up_at _ _ _⟩
  · rw [if_neg c, if_neg c]
    refine ⟨by omega, h6, ?_⟩
    show (if ke - 1 = 5 then z else hs (ke - 1 + 1)) = z
    rw [if_pos (by omega)]
theorem push_two (ke : Nat) (hs : Nat → SS) (z z1 : SS) (h6 : ke ≤ 6) : 0 < kpK (kpK ke) - 1 ∧ pushH (kpK ke) (pushH ke hs z) z1 (kpK (kpK ke) - 1 - 1) = z := by
  obtain ⟨h1, h2, h3⟩ := push_top ke hs z h6
  unfold kpK at h1 h2 h3 ⊢
  by_cases c : ke < 6
  · rw [if_pos c] at h1 h2 h3 ⊢
    by_cases c2 : ke + 1 < 6
    · rw [if_pos c2]
      refine ⟨by omega, ?_⟩
      unfold pushH
      rw [if_pos c2, if_pos c, va_up_ne _ _ (by omega), show ke + 1 + 1 - 1 - 1 = ke by omega]
      exact va_up_at _ _ _
    · rw [if_neg c2]
      refine ⟨by omega, ?_⟩
      unfold pushH
      rw [if_neg c2]
      show (if ke + 1 - 1 - 1 = 5 then z1 else (if ke < 6 then va_up hs ke z else fun j => if j = 5 then z else hs (j + 1)) (ke + 1 - 1 - 1 + 1)) = z
      rw [if_neg (by omega), if_pos c, show ke + 1 - 1 - 1 + 1 = ke by omega]
      exact va_up_at _ _ _
  · rw [if_neg c] at h1 h2 h3 ⊢
    rw [if_neg c]
    refine ⟨by omega, ?_⟩
    unfold pushH
    rw [if_neg c]
    show (if ke - 1 - 1 = 5 then z1 else (if ke < 6 then va_up hs ke z else fun j => if j = 5 then z else hs (j + 1)) (ke - 1 - 1 + 1)) = z
    rw [if_neg (by omega), if_neg c]
    show (if ke - 1 - 1 + 1 = 5 then z else hs (ke - 1 - 1 + 1 + 1)) = z
    rw [if_pos (by omega)]
theorem MB.main {E : wE} {g : Nat → Nat} {ln : Nat} {bf : Nat → Int32} {z : SS} {ke : Nat} {hs : Nat → SS} {H : Heap} (h : MB E g ln bf z ke hs H) : wP E 2 g (mbF E g ln bf) H := by
  obtain ⟨ol, zs, hr, hM, _⟩ := h
  exact hM
theorem MB.k6 {E : wE} {g : Nat → Nat} {ln : Nat} {bf : Nat → Int32} {z : SS} {ke : Nat} {hs : Nat → SS} {H : Heap} (h : MB E g ln bf z ke hs H) : ke ≤ 6 ∧ 2 ≤ z.1 ∧ z.1 ≤ 12 := by
  obtain ⟨ol, zs, hr, _⟩ := h
  exact ⟨hr.2.1, hr.2.2.2.2.1, hr.2.2.2.2.2⟩
/-- a number that is not below 0 -/
theorem and_low {v : Int32} : ∃ a, a < 2 ^ 31 ∧ v &&& nI 2147483647 = nI a := by
  refine ⟨(v &&& nI 2147483647).toBitVec.toNat, ?_, ?_⟩
  · show (v.toBitVec &&& BitVec.ofNat 32 2147483647).toNat < 2 ^ 31
    rw [BitVec.toNat_and]
    refine Nat.lt_of_le_of_lt Nat.and_le_right ?_
    decide
  · apply Int32.toBitVec_inj.mp
    show _ = BitVec.ofNat 32 _
    rw [BitVec.ofNat_toNat]
    exact (BitVec.setWidth_eq _).symm
theorem and_few {v : Int32} {k : Nat} (hk : k < 2 ^ 31) : ∃ a, a ≤ k ∧ v &&& nI k = nI a := by
  refine ⟨(v &&& nI k).toBitVec.toNat, ?_, ?_⟩
  · show (v.toBitVec &&& BitVec.ofNat 32 k).toNat ≤ k
    rw [BitVec.toNat_and]
    refine Nat.le_trans Nat.and_le_right ?_
    rw [BitVec.toNat_ofNat]
    exact Nat.mod_le _ _
  · apply Int32.toBitVec_inj.mp
    show _ = BitVec.ofNat 32 _
    rw [BitVec.ofNat_toNat]
    exact (BitVec.setWidth_eq _).symm
theorem MB.at {E : wE} {g : Nat → Nat} {ln : Nat} {bf : Nat → Int32} {z : SS} {ke : Nat} {hs : Nat → SS} {H H1 : Heap} (h : MB E g ln bf z ke hs H) {A : Nat → Prop} (hk : ∀ q : Nat, q < H.size → ¬ A q → H1[q]? = H[q]?) (hne : ∀ k, k < 94 → ¬ A (g k)) : MB E g ln bf z ke hs H1 := by
  obtain ⟨ol, zs, hr, hM, ⟨⟨pa, hPa⟩, ⟨el, hEl⟩, ⟨tli, tq, hTr⟩⟩, hN, hHi, hHs⟩ := h
  exact ⟨ol, zs, hr, hM.other hk (fun k hk2 => hne k (by omega)), ⟨⟨pa, hPa.other hk (fun k hk2 => hne (2 + k) (by omega))⟩, ⟨el, hEl.other hk (fun k hk2 => hne (3 + k) (by omega))⟩, ⟨tli, tq, hTr.other hk (fun k hk2 => hne (5 + k) (by omega))⟩⟩, stP.other hN hk (fun k hk2 => hne (8 + k) (by omega)), hHi.other hk (fun k hk2 => hne (20 + k) (by omega)), hHs.other hk (fun k hk2 => hne (20 + k) (by omega))⟩
theorem fg_all (rc : Nat → MR) (k : Nat) (hk : k < 3) : (mapQ fgM rc 3 k).2.1 = 0 ∧ (mapQ fgM rc 3 k).2.2.2.2.2 = [] := by
  unfold mapQ
  rw [if_pos hk]
  exact ⟨rfl, rfl⟩
/-- what a turn leaves: the state goes well; a change of the file makes all forget -/
def doP (B : Nat) (v : Int32) (z : SS) : Prop := ∃ y : MS, RZ B z y ∧ (v &&& nI 15 = nI 0 → ∀ k, k < 3 → (y.2.2.2 k).2.1 = 0 ∧ (y.2.2.2 k).2.2.2.2.2 = [])
theorem doP_no {B : Nat} {v : Int32} {z : SS} {y : MS} {a : Nat} (hz : RZ B z y) (e : v &&& nI 15 = nI a) (ha : a ≠ 0) (h15 : a ≤ 15) : doP B v z :=
  ⟨y, hz, fun h => absurd ((nI_eq (a := a) (b := 0) (by omega) (by omega)).mp (e.symm.trans h)) ha⟩
theorem bI_pos (b : Bool) : ¬ bI b < 0 := by cases b <;> decide
theorem sum_pos {nb m : Nat} (hn : nb ≤ 12) (hm : m < 2 ^ nb) {rc : Nat → MR} (h : ∀ i, i < 3 → MI nb (rc i).2) : ∀ n, n ≤ 3 → ∃ a, a ≤ 12 * n ∧ sumM m rc n = nI a := by
  intro n
  induction n with
  | zero => intro _; exact ⟨0, by omega, rfl⟩
  | succ n ih =>
    intro hn3
    obtain ⟨a, h1, h2⟩ := ih (by omega)
    rw [sumM, h2]
    have hg := gd_le m (rc n)
    split
    · rw [(gtv_nI hn hm (h n (by omega))).1, nI_add]
      exact ⟨_, by omega, rfl⟩
    · exact ⟨a, by omega, Int32.add_zero _⟩

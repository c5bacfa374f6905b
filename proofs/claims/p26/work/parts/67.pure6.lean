theorem alR_0 (vn : Nat → Nat) : alR vn 0 (fun _ => 0) := fun b _ => by rw [Nat.zero_testBit, if_neg (by decide)]
theorem forget_mk {vn vn' : Nat → Nat} {nb nb' B : Nat} {r : RR} {y : MR} (h : RRq vn nb B r y) : RRq vn' nb' B (fgR r) (fgM y) := by
  obtain ⟨e1, ⟨_, _, _, e4, e5, e6⟩, ⟨_, _, _⟩, G, T, O, c1, c2, c3, c4, c5⟩ := h
  refine ⟨e1, ⟨rfl, alR_0 vn', rfl, e4, e5, e6⟩, ⟨Nat.two_pow_pos nb', fun w hw => absurd hw List.not_mem_nil, Nat.zero_le _⟩, G, T, O, c1, c2, c3, ?_, c5⟩
  show T + O + 0 ≤ G
  omega
theorem elimRR_mk {vn : Nat → Nat} (hv : vOK vn) {nb B : Nat} (hn : nb ≤ 12) {r : RR} {y : MR} (h : RRq vn nb B r y) : RRq vn nb B (elimR r) (y.1, elmQ nb y.2) := by
  obtain ⟨e1, e2, e3, e4⟩ := h
  obtain ⟨_, k2, k3, _, _, k6⟩ := elim_mk hv hn e2 e3
  exact ⟨e1, k2, k3, k6 B e4⟩
theorem size_mk {B : Nat} {z : SS} {y : MS} (h : RZ B z y) {n : Nat} (h2 : 2 ≤ n) (h12 : n ≤ 12) : RZ B (sizeZ z n) (n, cutV y.2.1 n 12, y.2.2.1, mapQ fgM y.2.2.2 3) := by
  obtain ⟨vn, h1, hr, h3, h4, h5, h6, h7, h8⟩ := h
  refine ⟨fun b => if b < 12 then (if b < n then vn b else 0) else vn b, fun b => ?_, fun b => ?_, rfl, ?_, h5, h2, h12, ?_⟩
  · show (if b < 12 then (if b < n then vn b else 0) else vn b) < 65536
    split
    · split
      · exact h1 b
      · decide
    · exact h1 b
  · show cutV z.2.1 n 12 b = nI (if b < 12 then (if b < n then vn b else 0) else vn b)
    unfold cutV
    split
    · split
      · exact hr b
      · rfl
    · exact hr b
  · show cutV z.2.1 n 12 = cutV y.2.1 n 12
    rw [h4]
  · exact map3 (P := fun r y => RRq _ n B r y) (fun i hi => forget_mk (h8 i hi))
theorem write_mk {B : Nat} {z : SS} {y : MS} (h : RZ B z y) {b n : Nat} (hn : n < 65536) : RZ B (writeZ z b (nI n)) (y.1, upd y.2.1 b (nI n), y.2.2.1, mapQ fgM y.2.2.2 3) := by
  obtain ⟨vn, h1, hr, h3, h4, h5, h6, h7, h8⟩ := h
  refine ⟨fun c => if c = b then n else vn c, fun c => ?_, fun c => ?_, h3, ?_, h5, h6, h7, ?_⟩
  · show (if c = b then n else vn c) < 65536
    split
    · exact hn
    · exact h1 c
  · show upd z.2.1 b (nI n) c = nI (if c = b then n else vn c)
    by_cases e : c = b
    · rw [if_pos e, e, pk_us]
    · rw [if_neg e, pk_un e]; exact hr c
  · show upd z.2.1 b (nI n) = upd y.2.1 b (nI n)
    rw [h4]
  · exact map3 (P := fun r y => RRq _ z.1 B r y) (fun i hi => forget_mk (h8 i hi))
theorem recv_mk {B : Nat} {z : SS} {y : MS} (h : RZ B z y) {u : Nat} (hu : u < 3) {f : RR → RR} {g : MR → MR} (hfg : ∀ vn, vOK vn → ∀ r q, RRq vn z.1 B r q → RRq vn z.1 B (f r) (g q)) : RZ B (recvZ z u (f (z.2.2.2 u))) (y.1, y.2.1, y.2.2.1, va_up y.2.2.2 u (g (y.2.2.2 u))) := by
  obtain ⟨vn, h1, hr, h3, h4, h5, h6, h7, h8⟩ := h
  refine ⟨vn, h1, hr, h3, h4, h5, h6, h7, fun i hi => ?_⟩
  show RRq vn z.1 B (va_up z.2.2.2 u (f (z.2.2.2 u)) i) (va_up y.2.2.2 u (g (y.2.2.2 u)) i)
  by_cases e : i = u
  · rw [e, va_up_at, va_up_at]
    exact hfg vn h1 _ _ (h8 u hu)
  · rw [va_up_ne _ _ e, va_up_ne _ _ e]
    exact h8 i hi
theorem listen_mk {B : Nat} {z : SS} {y : MS} (h : RZ B z y) {u : Nat} (hu : u < 3) (el : Bool) : RZ B (recvZ z u (el, (z.2.2.2 u).2)) (y.1, y.2.1, y.2.2.1, va_up y.2.2.2 u (el, (y.2.2.2 u).2)) :=
  recv_mk h hu (f := fun r => (el, r.2)) (g := fun q => (el, q.2)) (fun _ _ _ _ q => ⟨rfl, q.2⟩)
theorem forget1_mk {B : Nat} {z : SS} {y : MS} (h : RZ B z y) {u : Nat} (hu : u < 3) : RZ B (recvZ z u (fgR (z.2.2.2 u))) (y.1, y.2.1, y.2.2.1, va_up y.2.2.2 u (fgM (y.2.2.2 u))) :=
  recv_mk h hu (f := fgR) (g := fgM) (fun _ _ _ _ q => forget_mk q)
theorem elim1_mk {B : Nat} {z : SS} {y : MS} (h : RZ B z y) {u : Nat} (hu : u < 3) : RZ B (recvZ z u (elimR (z.2.2.2 u))) (y.1, y.2.1, y.2.2.1, va_up y.2.2.2 u ((y.2.2.2 u).1, elmQ y.1 (y.2.2.2 u).2)) := by
  obtain ⟨_, _, _, h3, _, _, _, h7, _⟩ := id h
  have := recv_mk h hu (f := elimR) (g := fun q => (q.1, elmQ z.1 q.2)) (fun vn hv _ _ q => elimRR_mk hv h7 q)
  rw [← h3] at this ⊢
  exact this
theorem new_mk : RZ 0 ss0 ms0 := by
  refine ⟨fun _ => 0, fun _ => (by decide : (0 : Nat) < 65536), fun _ => rfl, rfl, rfl, rfl, by decide, by decide, fun i _ => ⟨rfl, ⟨rfl, alR_0 _, rfl, rfl, rfl, rfl⟩, ⟨Nat.two_pow_pos _, fun w hw => absurd hw List.not_mem_nil, Nat.zero_le _⟩, 0, 0, 0, rfl, rfl, rfl, Nat.zero_le _, Nat.zero_le _⟩⟩
/-- what is saved -/
def RHs (B ke : Nat) (hs : Nat → SS) (ms : Nat → MS) : Prop := ∀ i, i < ke → RZ B (hs i) (ms i)
theorem RHs_le {B B2 ke : Nat} {hs : Nat → SS} {ms : Nat → MS} (h : RHs B ke hs ms) (hb : B ≤ B2) : RHs B2 ke hs ms := fun i hi => RZ_le (h i hi) hb
theorem RHs_back {B ke ke2 : Nat} {hs : Nat → SS} {ms : Nat → MS} (h : RHs B ke hs ms) (hk : ke2 ≤ ke) : RHs B ke2 hs ms := fun i hi => h i (by omega)
theorem push_mk {B ke : Nat} {hs : Nat → SS} {ms : Nat → MS} {z : SS} {y : MS} (hk : ke ≤ 6) (h : RHs B ke hs ms) (hz : RZ B z y) : RHs B (kpK ke) (pushH ke hs z) (pushM ke ms y) := by
  intro i hi
  unfold kpK at hi
  unfold pushH pushM
  by_cases c : ke < 6
  · rw [if_pos c] at hi
    rw [if_pos c, if_pos c]
    by_cases e : i = ke
    · rw [e, va_up_at, va_up_at]; exact hz
    · rw [va_up_ne _ _ e, va_up_ne _ _ e]
      exact h i (by omega)
  · rw [if_neg c] at hi
    rw [if_neg c, if_neg c]
    show RZ B (if i = 5 then z else hs (i + 1)) (if i = 5 then y else ms (i + 1))
    by_cases e : i = 5
    · rw [if_pos e, if_pos e]; exact hz
    · rw [if_neg e, if_neg e]
      exact h (i + 1) (by omega)
section
variable {B : Nat} {z : SS} {y : MS} {u : Nat}
theorem a_size (h : RZ B z y) : z.1 = y.1 := by obtain ⟨_, _, _, h3, _⟩ := h; exact h3
theorem a_va (h : RZ B z y) : z.2.1 = y.2.1 := by obtain ⟨_, _, _, _, h4, _⟩ := h; exact h4
theorem a_li (h : RZ B z y) (hu : u < 3) : (z.2.2.2 u).1 = (y.2.2.2 u).1 := by obtain ⟨_, _, _, _, _, _, _, _, h8⟩ := h; exact (h8 u hu).1
theorem a_forget (h : RZ B z y) (hu : u < 3) : swar (z.2.2.2 u).2.1 = nI (pc (y.2.2.2 u).2.1) := by
  obtain ⟨vn, h1, hr, h3, h4, h5, h6, h7, h8⟩ := h
  obtain ⟨_, e2, e3, _⟩ := h8 u hu
  rw [e2.1, swar_pc (Nat.lt_of_lt_of_le e3.1 (pow_nb h7))]
theorem a_elim (h : RZ B z y) (hu : u < 3) : (findS (z.2.2.2 u).2).2.2.2.2 = nI (pc (elmQ y.1 (y.2.2.2 u).2).1) - nI (pc (y.2.2.2 u).2.1) := by
  obtain ⟨vn, h1, hr, h3, h4, h5, h6, h7, h8⟩ := h
  obtain ⟨_, e2, e3, _⟩ := h8 u hu
  rw [← h3]
  exact (elim_mk h1 h7 e2 e3).1
theorem a_ifel (h : RZ B z y) (hu : u < 3) : (findS (z.2.2.2 u).2).2.2.2.2 = nI (pc (alnM (redW (y.2.2.2 u).2.2.2.2.2))) := by
  obtain ⟨vn, h1, hr, h3, h4, h5, h6, h7, h8⟩ := h
  obtain ⟨_, e2, e3, _⟩ := h8 u hu
  exact ifEl_mk h1 h7 e2 e3
theorem a_known (h : RZ B z y) (hu : u < 3) {b : Nat} (hb : b < 12) : knownF (z.2.2.2 u) b = knM y.2.1 (y.2.2.2 u).2.1 b := by
  obtain ⟨vn, h1, hr, h3, h4, h5, h6, h7, h8⟩ := h
  obtain ⟨_, e2, e3, _⟩ := h8 u hu
  rw [← h4]
  exact known_mk h1 hr e2 (Nat.lt_of_lt_of_le e3.1 (pow_nb h7)) hb
theorem a_wait (h : RZ B z y) (hu : u < 3) (q9 j : Nat) : waitF (z.2.2.2 u) q9 j = if (y.2.2.2 u).2.2.2.2.2.length ≤ q9 then -1 else if j = 0 then nI ((y.2.2.2 u).2.2.2.2.2.getD q9 0) else vlM y.1 y.2.1 ((y.2.2.2 u).2.2.2.2.2.getD q9 0) := by
  obtain ⟨vn, h1, hr, h3, h4, h5, h6, h7, h8⟩ := h
  obtain ⟨_, e2, e3, _⟩ := h8 u hu
  rw [← h4, ← h3]
  exact wait_mk h1 hr h7 e2 e3 q9 j
theorem a_mix (h : RZ B z y) (k j : Nat) : mixF z k j = if j = 0 then nI (pc (mskM y.1 k)) else if j = 1 then nI (mskM y.1 k) else vlM y.1 y.2.1 (mskM y.1 k) := by
  obtain ⟨vn, h1, hr, h3, h4, h5, h6, h7, h8⟩ := h
  rw [← h4, ← h3]
  exact mix_mk h1 hr h6 h7 k j
theorem a_num (h : RZ B z y) (hu : u < 3) (j : Nat) : numF z.1 (z.2.2.2 u) j = numM y.1 (y.2.2.2 u) j := by
  obtain ⟨vn, h1, hr, h3, h4, h5, h6, h7, h8⟩ := h
  obtain ⟨e1, e2, e3, _⟩ := h8 u hu
  rw [← h3]
  exact num_mk h1 h7 e1 e2 e3 j
theorem a_got0 (h : RZ B z y) (hu : u < 3) (k : Nat) : (getS (mixS z.1 z.2.1 k) (z.2.2.2 u).2).1 = gtv (mskM y.1 k) (y.2.2.2 u) := by
  obtain ⟨vn, h1, hr, h3, h4, h5, h6, h7, h8⟩ := h
  obtain ⟨_, e2, e3, _⟩ := h8 u hu
  rw [mixS_mk h1 hr (by omega) h7, ← h3]
  exact (get_mk h1 h7 (mskM_lt (by omega) k) e2 e3).1
theorem a_got1 (h : RZ B z y) (hu : u < 3) (k : Nat) : rankQ (getS (mixS z.1 z.2.1 k) (z.2.2.2 u).2).2 = rnkM (getM (mskM y.1 k) (y.2.2.2 u).2) := by
  obtain ⟨vn, h1, hr, h3, h4, h5, h6, h7, h8⟩ := h
  obtain ⟨_, e2, e3, _⟩ := h8 u hu
  rw [mixS_mk h1 hr (by omega) h7, ← h3]
  obtain ⟨_, g2, g3, _⟩ := get_mk h1 h7 (mskM_lt (nb := z.1) (by omega) k) e2 e3
  exact rank_mk h1 h7 g2 g3
theorem a_helps (h : RZ B z y) (hu : u < 3) (n k : Nat) : nhS (helpB z (z.2.2.2 u)) n k = nhS (hpM y.1 (y.2.2.2 u)) n k := by
  obtain ⟨vn, h1, hr, h3, h4, h5, h6, h7, h8⟩ := h
  obtain ⟨_, e2, e3, _⟩ := h8 u hu
  have e : helpB z (z.2.2.2 u) = hpM y.1 (y.2.2.2 u) := by
    funext k
    rw [← h3]
    exact help_mk h1 hr h6 h7 e2 e3 k
  rw [e]
theorem a_needs (h : RZ B z y) (hu : u < 3) (fr : Nat) (el : Bool) (n tk : Nat) : ndS z fr el n tk (z.2.2.2 u).2 = ndM y.1 fr el n tk (y.2.2.2 u).2 := by
  obtain ⟨vn, h1, hr, h3, h4, h5, h6, h7, h8⟩ := h
  obtain ⟨_, e2, e3, _⟩ := h8 u hu
  rw [← h3]
  exact need_mk h1 hr h6 h7 fr el n tk _ _ e2 e3
end

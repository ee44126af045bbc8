/-! the constructors: printed by wip/whole/gen_init.py -/
def zIw (s : Nat × Nat × Nat) (j : Int32) : Int32 := if (s = (0, 6, 0) ∧ j = 6) ∨ (s = (0, 4, 0) ∧ j = 3) ∨ (s = (0, 10, 0) ∧ j = 12) then -1 else 0
/-- what a number is when all is made -/
def zIv (c : Nat) (j : Int32) : Int32 := zIw (zSh c) j
theorem zIw_a {m t n : Nat} {j : Int32} : zIw (m + 1, t, n) j = 0 := by
  unfold zIw; rw [if_neg]
  rintro (⟨h, -⟩ | ⟨h, -⟩ | ⟨h, -⟩) <;> simp at h
def zMd (a b : Nat) (h g : zHp) : Prop := g.2.1 = b ∧ (∀ c, c < a ∨ 100000 ≤ c → g.1 c = h.1 c) ∧ (∀ c, c < a → g.2.2 c = h.2.2 c) ∧ (∀ c j, a ≤ c → c < b → g.1 c j = zIv c j) ∧ (∀ c, b ≤ c → c < 100000 → (∀ j, g.1 c j = 0) ∧ ∀ j, g.2.2 c j = false) ∧ ∀ c j, a ≤ c → c < b → zrv c j = true → g.2.2 c j = true
def zFA (h : zHp) (a : Nat) : Prop := ∀ c, a ≤ c → c < 100000 → (∀ j, h.1 c j = 0) ∧ ∀ j, h.2.2 c j = false
/-- under construction: p, q are the references, the numbers that are still to come -/
def zCo (a n : Nat) (h g : zHp) (p : Nat → Nat → Prop) (q : Nat → Int32 → Prop) : Prop := g.2.1 = n ∧ (∀ c, c < a ∨ 100000 ≤ c → g.1 c = h.1 c) ∧ (∀ c, c < a → g.2.2 c = h.2.2 c) ∧ (∀ c j, a ≤ c → c < n → ¬ q c j → g.1 c j = zIv c j) ∧ (∀ c, n ≤ c → c < 100000 → (∀ j, g.1 c j = 0) ∧ ∀ j, g.2.2 c j = false) ∧ ∀ c j, a ≤ c → c < n → zrv c j = true → ¬ p c j → g.2.2 c j = true
section
variable {a n b : Nat} {h g g' : zHp} {p p' : Nat → Nat → Prop} {q q' : Nat → Int32 → Prop}
theorem zCo_0 (hn : h.2.1 = a + 1) (hf : zFA h a) (ha : a < 100000) : zCo a (a + 1) h h (fun c _ => c = a) (fun c j => c = a ∧ zIv a j ≠ 0) := by
  refine ⟨hn, fun _ _ => rfl, fun _ _ => rfl, fun c j h1 h2 h3 => ?_, fun c h1 h2 => hf c (by omega) h2, fun c j h1 h2 _ h3 => absurd (by omega) h3⟩
  have hc : c = a := by omega
  subst hc
  rw [(hf c (Nat.le_refl _) ha).1]
  exact Classical.byContradiction (fun k => h3 ⟨rfl, fun k2 => k k2.symm⟩)
theorem zCo_w (hc : zCo a n h g p q) (hp : ∀ c j, c < n → zrv c j = true → p c j → p' c j) (hq : ∀ c j, q c j → q' c j) : zCo a n h g p' q' :=
  ⟨hc.1, hc.2.1, hc.2.2.1, fun c j h1 h2 h3 => hc.2.2.2.1 c j h1 h2 (fun k => h3 (hq c j k)), hc.2.2.2.2.1, fun c j h1 h2 h3 h4 => hc.2.2.2.2.2 c j h1 h2 h3 (fun k => h4 (hp c j h2 h3 k))⟩
theorem zCo_int {x j : Int32} (hc : zCo a n h g p q) (hb : a ≤ b) (hb2 : b < n) (hx : x = zIv b j) (hn : n ≤ 100000) : zCo a n h (zup g.1 b j x, g.2) p (fun c i => q c i ∧ ¬ (c = b ∧ i = j)) := by
  obtain ⟨h1, h2, h3, h4, h5, h6⟩ := hc
  refine ⟨h1, fun c k => ?_, h3, fun c i k1 k2 k3 => ?_, fun c k1 k2 => ⟨fun i => ?_, (h5 c k1 k2).2⟩, h6⟩
  · rw [← h2 c k]; funext i; show zup g.1 b j x c i = _; rw [zup_e, if_neg (by omega)]
  · show zup g.1 b j x c i = _; rw [zup_e]
    by_cases hk : c = b ∧ i = j
    · rw [if_pos hk, hx, hk.1, hk.2]
    · rw [if_neg hk]; exact h4 c i k1 k2 (fun k => k3 ⟨k, hk⟩)
  · show zup g.1 b j x c i = _; rw [zup_e, if_neg (by omega)]; exact (h5 c k1 k2).1 i
theorem zCo_arr (hc : zCo a n h g p q) (hz : ∀ j, zrv n j = false) (hi : ∀ j, zIv n j = 0) (hn : n < 100000) : zCo a (n + 1) h (g.1, n + 1, g.2.2) p q := by
  obtain ⟨h1, h2, h3, h4, h5, h6⟩ := hc
  refine ⟨rfl, h2, h3, fun c i k1 k2 k3 => ?_, fun c k1 k2 => h5 c (by omega) k2, fun c i k1 k2 k3 k4 => ?_⟩
  · by_cases hk : c = n
    · subst hk; rw [hi]; exact (h5 c (Nat.le_refl _) hn).1 i
    · exact h4 c i k1 (by omega) k3
  · by_cases hk : c = n
    · subst hk; rw [hz] at k3; exact absurd k3 (by decide)
    · exact h6 c i k1 (by omega) k3 k4
theorem zCo_row (hc : zCo a n h g p q) (hi : ∀ j, zIv n j = 0) (hn : n < 100000) : zCo a (n + 1) h (g.1, n + 1, g.2.2) (fun c i => p c i ∨ c = n) q := by
  obtain ⟨h1, h2, h3, h4, h5, h6⟩ := hc
  refine ⟨rfl, h2, h3, fun c i k1 k2 k3 => ?_, fun c k1 k2 => h5 c (by omega) k2, fun c i k1 k2 k3 k4 => ?_⟩
  · by_cases hk : c = n
    · subst hk; rw [hi]; exact (h5 c (Nat.le_refl _) hn).1 i
    · exact h4 c i k1 (by omega) k3
  · exact h6 c i k1 (by have : ¬ c = n := fun k => k4 (Or.inr k); omega) k3 (fun k => k4 (Or.inl k))
theorem zCo_put {j : Nat} (hc : zCo a n h g p q) (hb : a ≤ b) (hb2 : b < n) : zCo a n h (g.1, g.2.1, zini g.2.2 b j) (fun c i => p c i ∧ ¬ (c = b ∧ i = j)) q := by
  obtain ⟨h1, h2, h3, h4, h5, h6⟩ := hc
  refine ⟨h1, h2, fun c k => ?_, h4, fun c k1 k2 => ⟨(h5 c k1 k2).1, fun i => ?_⟩, fun c i k1 k2 k3 k4 => ?_⟩
  · rw [← h3 c k]; funext i; show zini g.2.2 b j c i = _; unfold zini; rw [if_neg (by omega)]
  · show zini g.2.2 b j c i = _; unfold zini; rw [if_neg (by omega)]; exact (h5 c k1 k2).2 i
  · show zini g.2.2 b j c i = _; unfold zini
    by_cases hk : c = b ∧ i = j
    · rw [if_pos hk]
    · rw [if_neg hk]; exact h6 c i k1 k2 k3 (fun k => k4 ⟨k, hk⟩)
theorem zCo_call (hc : zCo a n h g p q) (hm : zMd n b (g.1, n + 1, g.2.2) g') (hb : n ≤ b) (han : a ≤ n) : zCo a b h g' p q := by
  obtain ⟨h1, h2, h3, h4, h5, h6⟩ := hc
  obtain ⟨m1, m2, m3, m4, m5, m6⟩ := hm
  refine ⟨m1, fun c k => ?_, fun c k => ?_, fun c i k1 k2 k3 => ?_, m5, fun c i k1 k2 k3 k4 => ?_⟩
  · rw [m2 c (by omega)]; exact h2 c k
  · rw [m3 c (by omega)]; exact h3 c k
  · by_cases hk : c < n
    · rw [m2 c (Or.inl hk)]; exact h4 c i k1 hk k3
    · exact m4 c i (by omega) k2
  · by_cases hk : c < n
    · rw [m3 c hk]; exact h6 c i k1 hk k3 k4
    · exact m6 c i (by omega) k2 k3
theorem zCo_fa (hc : zCo a n h g p q) : zFA (g.1, n + 1, g.2.2) n := fun c k1 k2 => hc.2.2.2.2.1 c k1 k2
theorem zCo_end (hc : zCo a b h g p q) (hp : ∀ c j, c < b → zrv c j = true → ¬ p c j) (hq : ∀ c j, ¬ q c j) : zMd a b h g :=
  ⟨hc.1, hc.2.1, hc.2.2.1, fun c j h1 h2 => hc.2.2.2.1 c j h1 h2 (hq c j), hc.2.2.2.2.1, fun c j h1 h2 h3 => hc.2.2.2.2.2 c j h1 h2 h3 (hp c j h2 h3)⟩
end
theorem zrv_1 {c t n j : Nat} (hs : zSh c = (1, t, n)) : zrv c j = false := by unfold zrv; rw [hs]; simp
theorem zrv_2 {c t n j : Nat} (hs : zSh c = (2, t, n)) (h : zrv c j = true) : j < n := by unfold zrv at h; rw [hs] at h; simpa using h
theorem zrv_0 {c t j : Nat} (hs : zSh c = (0, t, 0)) (h : zrv c j = true) : j < (zFk t).length ∧ ¬ (zFk t).getD j 0 = 0 := by unfold zrv at h; rw [hs, if_pos rfl] at h; exact of_decide_eq_true h
theorem zIv_1 {c t n m : Nat} {j : Int32} (hs : zSh c = (m + 1, t, n)) : zIv c j = 0 := by unfold zIv; rw [hs]; exact zIw_a
theorem zcl {k : Int32} (h0 : 0 ≤ k) (h1 : k < 100) : (k + 1).toNatClampNeg = k.toNatClampNeg + 1 ∧ k.toNatClampNeg < 100 := by
  obtain ⟨j, hj, rfl⟩ := znn h0
  have hj2 : j < 100 := (nI_ltI hj (by decide)).mp h1
  rw [nI_1, nI_clamp hj, nI_clamp (by omega)]
  exact ⟨rfl, hj2⟩
theorem zcl_lt {k : Int32} {n : Nat} (h0 : 0 ≤ k) (hn : n < 100) (h1 : k < nI n) : k.toNatClampNeg < n := by
  obtain ⟨j, hj, rfl⟩ := znn h0
  rw [nI_clamp hj]
  exact (nI_ltI hj (by omega)).mp h1
section
variable {M M2 : zMT} {N N2 n : Nat} {Q Q2 : Option Value → zHp → Prop} {pc : Nat} {lv : zLv} {st : List Value} {h : zHp}
theorem zG_nmh (kk : ∀ g, g = h → zG M N Q pc lv st g) : zG M N Q pc lv st h := kk h rfl
theorem zc_new {x c n : Nat} (e : h.2.1 = n) (hd : decode M.2.2.1 pc = .ok (.new x, 3)) (hn : zNW.any (fun e => e.1 == M.1 && (e.2.1 == x && e.2.2.1 == c)) = true) (hs : zSh n = (0, c, 0)) (hN : n < N) (hN2 : N ≤ 98000) (h0 : (∀ j, h.1 n j = 0) ∧ ∀ j, h.2.2 n j = false)
    (kk : zG M N Q (pc + 3) lv (.ref n :: st) (h.1, n + 1, h.2.2)) : zG M N Q pc lv st h := by subst e; exact zs_new hd hn hs hN hN2 h0 kk
theorem zc_newI {m n : Nat} {x : Int32} (e : h.2.1 = n) (hd : decode M.2.2.1 pc = .ok (.newarray .int, 2)) (hs : zSh n = (1, 0, m)) (hx : x = nI m) (hN : n < N) (hN2 : N ≤ 98000) (h0 : (∀ j, h.1 n j = 0) ∧ ∀ j, h.2.2 n j = false)
    (kk : zG M N Q (pc + 2) lv (.ref n :: st) (h.1, n + 1, h.2.2)) : zG M N Q pc lv (.int x :: st) h := by subst e; exact zs_newI hd hs hx hN hN2 h0.1 kk
theorem zc_newB {m n : Nat} {x : Int32} (e : h.2.1 = n) (hd : decode M.2.2.1 pc = .ok (.newarray .byte, 2)) (hs : zSh n = (1, 1, m)) (hx : x = nI m) (hN : n < N) (hN2 : N ≤ 98000) (h0 : (∀ j, h.1 n j = 0) ∧ ∀ j, h.2.2 n j = false)
    (kk : zG M N Q (pc + 2) lv (.ref n :: st) (h.1, n + 1, h.2.2)) : zG M N Q pc lv (.int x :: st) h := by subst e; exact zs_newB hd hs hx hN hN2 h0.1 kk
theorem zc_newZ {m n : Nat} {x : Int32} (e : h.2.1 = n) (hd : decode M.2.2.1 pc = .ok (.newarray .boolean, 2)) (hs : zSh n = (1, 2, m)) (hx : x = nI m) (hN : n < N) (hN2 : N ≤ 98000) (h0 : (∀ j, h.1 n j = 0) ∧ ∀ j, h.2.2 n j = false)
    (kk : zG M N Q (pc + 2) lv (.ref n :: st) (h.1, n + 1, h.2.2)) : zG M N Q pc lv (.int x :: st) h := by subst e; exact zs_newZ hd hs hx hN hN2 h0.1 kk
theorem zc_newq {x r m n : Nat} {y : Int32} (e : h.2.1 = n) (hd : decode M.2.2.1 pc = .ok (.anewarray x, 3)) (hn : zNW.any (fun e => e.1 == M.1 && (e.2.1 == x && e.2.2.1 == zRk r)) = true) (hao : zON (zRk r) ∈ zAO) (hz : ∀ k : zKT, (zTys k)[zRc r]? = some (k.2.2.1 (zRc r), .object (zON (zRk r)))) (hs : zSh n = (2, r, m)) (hy : y = nI m) (hN : n < N) (hN2 : N ≤ 98000) (h0 : (∀ j, h.1 n j = 0) ∧ ∀ j, h.2.2 n j = false)
    (kk : zG M N Q (pc + 3) lv (.ref n :: st) (h.1, n + 1, h.2.2)) : zG M N Q pc lv (.int y :: st) h := by subst e; exact zs_newq hd hn hao hz hs hy hN hN2 h0.2 kk
end
theorem zrvd2 : ∀ j, j < 4 → ¬ (zFk 2).getD j 0 = 0 → j ∈ ([0, 1] : List Nat) := by decide +kernel
theorem zrvc2 {a j : Nat} (hs : zSh a = (0, 2, 0)) (h : zrv a j = true) : j ∈ ([0, 1] : List Nat) := zrvd2 j (zrv_0 hs h).1 (zrv_0 hs h).2
theorem zrvd3 : ∀ j, j < 2 → ¬ (zFk 3).getD j 0 = 0 → j ∈ ([0] : List Nat) := by decide +kernel
theorem zrvc3 {a j : Nat} (hs : zSh a = (0, 3, 0)) (h : zrv a j = true) : j ∈ ([0] : List Nat) := zrvd3 j (zrv_0 hs h).1 (zrv_0 hs h).2
theorem zrvd4 : ∀ j, j < 7 → ¬ (zFk 4).getD j 0 = 0 → j ∈ ([0, 1, 4, 5] : List Nat) := by decide +kernel
theorem zrvc4 {a j : Nat} (hs : zSh a = (0, 4, 0)) (h : zrv a j = true) : j ∈ ([0, 1, 4, 5] : List Nat) := zrvd4 j (zrv_0 hs h).1 (zrv_0 hs h).2
theorem zrvd5 : ∀ j, j < 7 → ¬ (zFk 5).getD j 0 = 0 → j ∈ ([0, 1, 3, 5] : List Nat) := by decide +kernel
theorem zrvc5 {a j : Nat} (hs : zSh a = (0, 5, 0)) (h : zrv a j = true) : j ∈ ([0, 1, 3, 5] : List Nat) := zrvd5 j (zrv_0 hs h).1 (zrv_0 hs h).2
theorem zrvd7 : ∀ j, j < 2 → ¬ (zFk 7).getD j 0 = 0 → j ∈ ([0] : List Nat) := by decide +kernel
theorem zrvc7 {a j : Nat} (hs : zSh a = (0, 7, 0)) (h : zrv a j = true) : j ∈ ([0] : List Nat) := zrvd7 j (zrv_0 hs h).1 (zrv_0 hs h).2
theorem zrvd8 : ∀ j, j < 5 → ¬ (zFk 8).getD j 0 = 0 → j ∈ ([0, 2, 3] : List Nat) := by decide +kernel
theorem zrvc8 {a j : Nat} (hs : zSh a = (0, 8, 0)) (h : zrv a j = true) : j ∈ ([0, 2, 3] : List Nat) := zrvd8 j (zrv_0 hs h).1 (zrv_0 hs h).2
theorem zrvd9 : ∀ j, j < 12 → ¬ (zFk 9).getD j 0 = 0 → j ∈ ([0, 1, 2, 3, 4, 5, 6, 7, 8, 9] : List Nat) := by decide +kernel
theorem zrvc9 {a j : Nat} (hs : zSh a = (0, 9, 0)) (h : zrv a j = true) : j ∈ ([0, 1, 2, 3, 4, 5, 6, 7, 8, 9] : List Nat) := zrvd9 j (zrv_0 hs h).1 (zrv_0 hs h).2
theorem zrvd10 : ∀ j, j < 31 → ¬ (zFk 10).getD j 0 = 0 → j ∈ ([2, 3, 4, 5, 7, 8, 9, 10, 13, 14, 15, 22, 23, 24, 26, 28, 30] : List Nat) := by decide +kernel
theorem zrvc10 {a j : Nat} (hs : zSh a = (0, 10, 0)) (h : zrv a j = true) : j ∈ ([2, 3, 4, 5, 7, 8, 9, 10, 13, 14, 15, 22, 23, 24, 26, 28, 30] : List Nat) := zrvd10 j (zrv_0 hs h).1 (zrv_0 hs h).2
theorem zIv_0 {a t : Nat} {j : Int32} (hs : zSh a = (0, t, 0)) (h6 : t ≠ 6) (h4 : t ≠ 4) (h10 : t ≠ 10) : zIv a j = 0 := by
  unfold zIv zIw; rw [hs, if_neg]
  rintro (⟨h, -⟩ | ⟨h, -⟩ | ⟨h, -⟩) <;> simp at h <;> omega
theorem zIv_m {a t : Nat} {j f : Int32} (hs : zSh a = (0, t, 0)) (ht : (t = 6 ∧ f = 6) ∨ (t = 4 ∧ f = 3) ∨ (t = 10 ∧ f = 12)) (h : zIv a j ≠ 0) : j = f := by
  unfold zIv zIw at h; rw [hs] at h
  refine Classical.byContradiction (fun q => h ?_)
  rw [if_neg]
  rintro (⟨h1, h2⟩ | ⟨h1, h2⟩ | ⟨h1, h2⟩) <;> simp at h1 <;> rcases ht with ⟨t1, f1⟩ | ⟨t1, f1⟩ | ⟨t1, f1⟩ <;> first | omega | exact q (h2.trans f1.symm)
theorem zCo_int2 {a n b : Nat} {h g : zHp} {p : Nat → Nat → Prop} {q : Nat → Int32 → Prop} {x j : Int32} (hc : zCo a n h g p q) (hb : a ≤ b) (hb2 : b < n) (hx : x = zIv b j) (hn : n ≤ 100000) : zCo a n h (zup g.1 b j x, g.2) p q := zCo_w (zCo_int hc hb hb2 hx hn) (fun _ _ _ _ k => k) (fun _ _ k => k.1)
theorem sh_act : ∀ j, j < 8 → zSh (72 + 34 * j) = (0, 0, 0) := by decide +kernel
theorem zrv_n {c t j : Nat} (hs : zSh c = (0, t, 0)) (ht : ∀ j, j < (zFk t).length → (zFk t).getD j 0 = 0) : zrv c j = false := by
  cases hb : zrv c j with
  | false => rfl
  | true => obtain ⟨h1, h2⟩ := zrv_0 hs hb; exact absurd (ht j h1) h2
theorem bkSpa_init_0 : zBk mSpa_init 0 [(1, 0, 1, 0, 0)] = some 1 := by decide +kernel
theorem bkSpa_init_4 : zBk mSpa_init 4 [(1, 0, 1, 0, 0), (0, 0, 0, 0, 0), (6, 6, 0, 1, 0)] = some 9 := by decide +kernel
theorem bkSpa_init_9 : zBk mSpa_init 9 [(1, 0, 1, 0, 0), (0, 0, 0, 0, 0), (6, 6, 1, 0, 1)] = some 14 := by decide +kernel
theorem bkSpa_init_14 : zBk mSpa_init 14 [(1, 0, 1, 0, 0), (0, 0, 0, 0, 0), (6, 6, 2, 0, 2)] = some 19 := by decide +kernel
theorem bkSpa_init_19 : zBk mSpa_init 19 [(1, 0, 1, 0, 0), (0, 0, 0, 0, 0), (6, 6, 3, 0, 3)] = some 24 := by decide +kernel
theorem bkSpa_init_24 : zBk mSpa_init 24 [(1, 0, 1, 0, 0), (0, 0, 0, 0, 0), (6, 6, 4, 0, 4)] = some 29 := by decide +kernel
theorem bkSpa_init_29 : zBk mSpa_init 29 [(1, 0, 1, 0, 0), (0, 0, 0, 0, 0), (6, 6, 5, 0, 5)] = some 34 := by decide +kernel
theorem bkSpa_init_34 : zBk mSpa_init 34 [(1, 0, 1, 0, 0), (0, 0, 0, 0, -1), (6, 6, 6, 0, 6)] = some 39 := by decide +kernel
theorem bkSpa_init_39 : zBk mSpa_init 39 [(1, 0, 1, 0, 0), (0, 0, 0, 0, 0), (6, 6, 7, 0, 7)] = some 44 := by decide +kernel
theorem bkSpa_init_44 : zBk mSpa_init 44 [(1, 0, 1, 0, 0), (0, 0, 0, 0, 0), (6, 6, 8, 0, 8)] = some 49 := by decide +kernel
theorem bkSpa_init_49 : zBk mSpa_init 49 [] = some 49 := by decide +kernel
theorem bdSpa_init_1 : decode mSpa_init.2.2.1 1 = .ok (.invokespecial 3, 3) := by decide +kernel
theorem bdSpa_init_49 : decode mSpa_init.2.2.1 49 = .ok (.return_, 1) := by decide +kernel
set_option maxHeartbeats 4000000 in
theorem lSpa_init {a : Nat} {h : zHp} (hn : h.2.1 = a + 1) (ha : a + 1 ≤ 98000) (hs : zSh a = (0, 6, 0)) (hf : zFA h a) {Q : Option Value → zHp → Prop} (hq : ∀ rr h', (rr = none ∧ zMd a (a + 1) h h') → Q rr h') : zG mSpa_init (a + 1) Q 0 [(0, .ref a)] [] h := by
  have c0 := zCo_0 hn hf (by omega)
  refine zG_run bkSpa_init_0 (lv' := [(0, .ref a)]) (st' := [.ref a]) (h' := h) (Ps := []) rfl trivial ?_
  refine zs_objinit (a := a) bdSpa_init_1 lo6_3 (And.intro (by decide) (by decide)) (Nat.le_of_ble_eq_true rfl) ?_
  refine zG_run bkSpa_init_4 (lv' := [(0, .ref a)]) (st' := []) (h' := (zup h.1 a 0 0, h.2)) (Ps := [zOb h a 6, 0 = 0 ∨ 0 = 1]) rfl (zA ⟨by rw [c0.1]; omega, hs⟩ (zA (Or.inl rfl) trivial)) ?_
  refine zG_nmh (h := (zup h.1 a 0 0, h.2)) (fun g1 e1 => ?_)
  have c1 := zCo_int2 (b := a) (j := 0) (x := 0) c0 (Nat.le_refl _) (by omega) (by rw [zIv, hs]; rfl) (by omega)
  rw [← e1] at c1
  clear e1
  refine zG_run bkSpa_init_9 (lv' := [(0, .ref a)]) (st' := []) (h' := (zup g1.1 a 1 0, g1.2)) (Ps := [zOb g1 a 6]) rfl (zA ⟨by rw [c1.1]; omega, hs⟩ trivial) ?_
  refine zG_nmh (h := (zup g1.1 a 1 0, g1.2)) (fun g2 e2 => ?_)
  have c2 := zCo_int2 (b := a) (j := 1) (x := 0) c1 (Nat.le_refl _) (by omega) (by rw [zIv, hs]; rfl) (by omega)
  rw [← e2] at c2
  clear e2
  refine zG_run bkSpa_init_14 (lv' := [(0, .ref a)]) (st' := []) (h' := (zup g2.1 a 2 0, g2.2)) (Ps := [zOb g2 a 6]) rfl (zA ⟨by rw [c2.1]; omega, hs⟩ trivial) ?_
  refine zG_nmh (h := (zup g2.1 a 2 0, g2.2)) (fun g3 e3 => ?_)
  have c3 := zCo_int2 (b := a) (j := 2) (x := 0) c2 (Nat.le_refl _) (by omega) (by rw [zIv, hs]; rfl) (by omega)
  rw [← e3] at c3
  clear e3
  refine zG_run bkSpa_init_19 (lv' := [(0, .ref a)]) (st' := []) (h' := (zup g3.1 a 3 0, g3.2)) (Ps := [zOb g3 a 6]) rfl (zA ⟨by rw [c3.1]; omega, hs⟩ trivial) ?_
  refine zG_nmh (h := (zup g3.1 a 3 0, g3.2)) (fun g4 e4 => ?_)
  have c4 := zCo_int2 (b := a) (j := 3) (x := 0) c3 (Nat.le_refl _) (by omega) (by rw [zIv, hs]; rfl) (by omega)
  rw [← e4] at c4
  clear e4
  refine zG_run bkSpa_init_24 (lv' := [(0, .ref a)]) (st' := []) (h' := (zup g4.1 a 4 0, g4.2)) (Ps := [zOb g4 a 6]) rfl (zA ⟨by rw [c4.1]; omega, hs⟩ trivial) ?_
  refine zG_nmh (h := (zup g4.1 a 4 0, g4.2)) (fun g5 e5 => ?_)
  have c5 := zCo_int2 (b := a) (j := 4) (x := 0) c4 (Nat.le_refl _) (by omega) (by rw [zIv, hs]; rfl) (by omega)
  rw [← e5] at c5
  clear e5
  refine zG_run bkSpa_init_29 (lv' := [(0, .ref a)]) (st' := []) (h' := (zup g5.1 a 5 0, g5.2)) (Ps := [zOb g5 a 6]) rfl (zA ⟨by rw [c5.1]; omega, hs⟩ trivial) ?_
  refine zG_nmh (h := (zup g5.1 a 5 0, g5.2)) (fun g6 e6 => ?_)
  have c6 := zCo_int2 (b := a) (j := 5) (x := 0) c5 (Nat.le_refl _) (by omega) (by rw [zIv, hs]; rfl) (by omega)
  rw [← e6] at c6
  clear e6
  refine zG_run bkSpa_init_34 (lv' := [(0, .ref a)]) (st' := []) (h' := (zup g6.1 a 6 (-1), g6.2)) (Ps := [zOb g6 a 6]) rfl (zA ⟨by rw [c6.1]; omega, hs⟩ trivial) ?_
  refine zG_nmh (h := (zup g6.1 a 6 (-1), g6.2)) (fun g7 e7 => ?_)
  have c7 := zCo_w (q' := fun _ _ => False) (zCo_int (b := a) (j := 6) (x := (-1)) c6 (Nat.le_refl _) (by omega) (by rw [zIv, hs]; rfl) (by omega)) (fun _ _ _ _ k => k) (fun c j k => k.2 ⟨k.1.1, zIv_m (f := 6) hs (by decide) k.1.2⟩)
  rw [← e7] at c7
  clear e7
  refine zG_run bkSpa_init_39 (lv' := [(0, .ref a)]) (st' := []) (h' := (zup g7.1 a 7 0, g7.2)) (Ps := [zOb g7 a 6]) rfl (zA ⟨by rw [c7.1]; omega, hs⟩ trivial) ?_
  refine zG_nmh (h := (zup g7.1 a 7 0, g7.2)) (fun g8 e8 => ?_)
  have c8 := zCo_int2 (b := a) (j := 7) (x := 0) c7 (Nat.le_refl _) (by omega) (by rw [zIv, hs]; rfl) (by omega)
  rw [← e8] at c8
  clear e8
  refine zG_run bkSpa_init_44 (lv' := [(0, .ref a)]) (st' := []) (h' := (zup g8.1 a 8 0, g8.2)) (Ps := [zOb g8 a 6]) rfl (zA ⟨by rw [c8.1]; omega, hs⟩ trivial) ?_
  refine zG_nmh (h := (zup g8.1 a 8 0, g8.2)) (fun g9 e9 => ?_)
  have c9 := zCo_int2 (b := a) (j := 8) (x := 0) c8 (Nat.le_refl _) (by omega) (by rw [zIv, hs]; rfl) (by omega)
  rw [← e9] at c9
  clear e9
  refine zb_vret (h' := g9) (Ps := []) bkSpa_init_49 bdSpa_init_49 rfl rfl trivial c9.1 ?_
  refine hq _ _ ⟨rfl, zCo_end c9 (fun c j hc hz hp => ?_) (fun _ _ k => k)⟩
  try dsimp only at hp
  by_cases hca : c = a
  · subst hca
    have hj := (zrv_0 hs hz).2
    exact absurd hz (by rw [zrv_n hs (by decide)]; decide)
  clear hz; omega
theorem cSpa_init {a : Nat} {h : zHp} (hn : h.2.1 = a + 1) (ha : a + 1 ≤ 98000) (hs : zSh a = (0, 6, 0)) (hf : zFA h a) : zG mSpa_init (a + 1) (fun rr h' => rr = none ∧ zMd a (a + 1) h h') 0 [(0, .ref a)] [] h := lSpa_init hn ha hs hf (fun _ _ q => q)
theorem bkAnc_init_0 : zBk mAnc_init 0 [(1, 0, 1, 0, 0)] = some 1 := by decide +kernel
theorem bkAnc_init_4 : zBk mAnc_init 4 [(1, 0, 1, 0, 0), (0, 0, 0, 0, 0), (6, 1, 0, 1, 0)] = some 9 := by decide +kernel
theorem bkAnc_init_9 : zBk mAnc_init 9 [(1, 0, 1, 0, 0), (0, 0, 0, 0, 0), (6, 1, 1, 0, 1)] = some 14 := by decide +kernel
theorem bkAnc_init_14 : zBk mAnc_init 14 [(1, 0, 1, 0, 0), (0, 0, 0, 0, 0), (6, 1, 2, 0, 2)] = some 19 := by decide +kernel
theorem bkAnc_init_19 : zBk mAnc_init 19 [(1, 0, 1, 0, 0), (0, 0, 0, 0, 0), (6, 1, 3, 0, 3)] = some 24 := by decide +kernel
theorem bkAnc_init_24 : zBk mAnc_init 24 [] = some 24 := by decide +kernel
theorem bdAnc_init_1 : decode mAnc_init.2.2.1 1 = .ok (.invokespecial 1, 3) := by decide +kernel
theorem bdAnc_init_24 : decode mAnc_init.2.2.1 24 = .ok (.return_, 1) := by decide +kernel
set_option maxHeartbeats 4000000 in
theorem lAnc_init {a : Nat} {h : zHp} (hn : h.2.1 = a + 1) (ha : a + 1 ≤ 98000) (hs : zSh a = (0, 1, 0)) (hf : zFA h a) {Q : Option Value → zHp → Prop} (hq : ∀ rr h', (rr = none ∧ zMd a (a + 1) h h') → Q rr h') : zG mAnc_init (a + 1) Q 0 [(0, .ref a)] [] h := by
  have c0 := zCo_0 hn hf (by omega)
  have c0 := zCo_w (q' := fun _ _ => False) c0 (fun _ _ _ _ k => k) (fun c j k => k.2 (zIv_0 hs (by decide) (by decide) (by decide)))
  refine zG_run bkAnc_init_0 (lv' := [(0, .ref a)]) (st' := [.ref a]) (h' := h) (Ps := []) rfl trivial ?_
  refine zs_objinit (a := a) bdAnc_init_1 lo1_1 (And.intro (by decide) (by decide)) (Nat.le_of_ble_eq_true rfl) ?_
  refine zG_run bkAnc_init_4 (lv' := [(0, .ref a)]) (st' := []) (h' := (zup h.1 a 0 0, h.2)) (Ps := [zOb h a 1, 0 = 0 ∨ 0 = 1]) rfl (zA ⟨by rw [c0.1]; omega, hs⟩ (zA (Or.inl rfl) trivial)) ?_
  refine zG_nmh (h := (zup h.1 a 0 0, h.2)) (fun g1 e1 => ?_)
  have c1 := zCo_int2 (b := a) (j := 0) (x := 0) c0 (Nat.le_refl _) (by omega) (by rw [zIv, hs]; rfl) (by omega)
  rw [← e1] at c1
  clear e1
  refine zG_run bkAnc_init_9 (lv' := [(0, .ref a)]) (st' := []) (h' := (zup g1.1 a 1 0, g1.2)) (Ps := [zOb g1 a 1]) rfl (zA ⟨by rw [c1.1]; omega, hs⟩ trivial) ?_
  refine zG_nmh (h := (zup g1.1 a 1 0, g1.2)) (fun g2 e2 => ?_)
  have c2 := zCo_int2 (b := a) (j := 1) (x := 0) c1 (Nat.le_refl _) (by omega) (by rw [zIv, hs]; rfl) (by omega)
  rw [← e2] at c2
  clear e2
  refine zG_run bkAnc_init_14 (lv' := [(0, .ref a)]) (st' := []) (h' := (zup g2.1 a 2 0, g2.2)) (Ps := [zOb g2 a 1]) rfl (zA ⟨by rw [c2.1]; omega, hs⟩ trivial) ?_
  refine zG_nmh (h := (zup g2.1 a 2 0, g2.2)) (fun g3 e3 => ?_)
  have c3 := zCo_int2 (b := a) (j := 2) (x := 0) c2 (Nat.le_refl _) (by omega) (by rw [zIv, hs]; rfl) (by omega)
  rw [← e3] at c3
  clear e3
  refine zG_run bkAnc_init_19 (lv' := [(0, .ref a)]) (st' := []) (h' := (zup g3.1 a 3 0, g3.2)) (Ps := [zOb g3 a 1]) rfl (zA ⟨by rw [c3.1]; omega, hs⟩ trivial) ?_
  refine zG_nmh (h := (zup g3.1 a 3 0, g3.2)) (fun g4 e4 => ?_)
  have c4 := zCo_int2 (b := a) (j := 3) (x := 0) c3 (Nat.le_refl _) (by omega) (by rw [zIv, hs]; rfl) (by omega)
  rw [← e4] at c4
  clear e4
  refine zb_vret (h' := g4) (Ps := []) bkAnc_init_24 bdAnc_init_24 rfl rfl trivial c4.1 ?_
  refine hq _ _ ⟨rfl, zCo_end c4 (fun c j hc hz hp => ?_) (fun _ _ k => k)⟩
  try dsimp only at hp
  by_cases hca : c = a
  · subst hca
    have hj := (zrv_0 hs hz).2
    exact absurd hz (by rw [zrv_n hs (by decide)]; decide)
  clear hz; omega
theorem cAnc_init {a : Nat} {h : zHp} (hn : h.2.1 = a + 1) (ha : a + 1 ≤ 98000) (hs : zSh a = (0, 1, 0)) (hf : zFA h a) : zG mAnc_init (a + 1) (fun rr h' => rr = none ∧ zMd a (a + 1) h h') 0 [(0, .ref a)] [] h := lAnc_init hn ha hs hf (fun _ _ q => q)
theorem bkAct_init_0 : zBk mAct_init 0 [(1, 0, 1, 0, 0)] = some 1 := by decide +kernel
theorem bkAct_init_4 : zBk mAct_init 4 [(1, 0, 1, 0, 0), (0, 0, 0, 0, 0), (6, 0, 0, 0, 0)] = some 9 := by decide +kernel
theorem bkAct_init_9 : zBk mAct_init 9 [(1, 0, 1, 0, 0), (0, 0, 0, 0, 0), (6, 0, 1, 0, 1)] = some 14 := by decide +kernel
theorem bkAct_init_14 : zBk mAct_init 14 [(1, 0, 1, 0, 0), (0, 0, 0, 0, 0), (6, 0, 2, 0, 2)] = some 19 := by decide +kernel
theorem bkAct_init_19 : zBk mAct_init 19 [(1, 0, 1, 0, 0), (0, 0, 0, 0, 0), (6, 0, 3, 0, 3)] = some 24 := by decide +kernel
theorem bkAct_init_24 : zBk mAct_init 24 [] = some 24 := by decide +kernel
theorem bdAct_init_1 : decode mAct_init.2.2.1 1 = .ok (.invokespecial 3, 3) := by decide +kernel
theorem bdAct_init_24 : decode mAct_init.2.2.1 24 = .ok (.return_, 1) := by decide +kernel
set_option maxHeartbeats 4000000 in
theorem lAct_init {a : Nat} {h : zHp} (hn : h.2.1 = a + 1) (ha : a + 1 ≤ 98000) (hs : zSh a = (0, 0, 0)) (hf : zFA h a) {Q : Option Value → zHp → Prop} (hq : ∀ rr h', (rr = none ∧ zMd a (a + 1) h h') → Q rr h') : zG mAct_init (a + 1) Q 0 [(0, .ref a)] [] h := by
  have c0 := zCo_0 hn hf (by omega)
  have c0 := zCo_w (q' := fun _ _ => False) c0 (fun _ _ _ _ k => k) (fun c j k => k.2 (zIv_0 hs (by decide) (by decide) (by decide)))
  refine zG_run bkAct_init_0 (lv' := [(0, .ref a)]) (st' := [.ref a]) (h' := h) (Ps := []) rfl trivial ?_
  refine zs_objinit (a := a) bdAct_init_1 lo0_3 (And.intro (by decide) (by decide)) (Nat.le_of_ble_eq_true rfl) ?_
  refine zG_run bkAct_init_4 (lv' := [(0, .ref a)]) (st' := []) (h' := (zup h.1 a 0 0, h.2)) (Ps := [zOb h a 0]) rfl (zA ⟨by rw [c0.1]; omega, hs⟩ trivial) ?_
  refine zG_nmh (h := (zup h.1 a 0 0, h.2)) (fun g1 e1 => ?_)
  have c1 := zCo_int2 (b := a) (j := 0) (x := 0) c0 (Nat.le_refl _) (by omega) (by rw [zIv, hs]; rfl) (by omega)
  rw [← e1] at c1
  clear e1
  refine zG_run bkAct_init_9 (lv' := [(0, .ref a)]) (st' := []) (h' := (zup g1.1 a 1 0, g1.2)) (Ps := [zOb g1 a 0]) rfl (zA ⟨by rw [c1.1]; omega, hs⟩ trivial) ?_
  refine zG_nmh (h := (zup g1.1 a 1 0, g1.2)) (fun g2 e2 => ?_)
  have c2 := zCo_int2 (b := a) (j := 1) (x := 0) c1 (Nat.le_refl _) (by omega) (by rw [zIv, hs]; rfl) (by omega)
  rw [← e2] at c2
  clear e2
  refine zG_run bkAct_init_14 (lv' := [(0, .ref a)]) (st' := []) (h' := (zup g2.1 a 2 0, g2.2)) (Ps := [zOb g2 a 0]) rfl (zA ⟨by rw [c2.1]; omega, hs⟩ trivial) ?_
  refine zG_nmh (h := (zup g2.1 a 2 0, g2.2)) (fun g3 e3 => ?_)
  have c3 := zCo_int2 (b := a) (j := 2) (x := 0) c2 (Nat.le_refl _) (by omega) (by rw [zIv, hs]; rfl) (by omega)
  rw [← e3] at c3
  clear e3
  refine zG_run bkAct_init_19 (lv' := [(0, .ref a)]) (st' := []) (h' := (zup g3.1 a 3 0, g3.2)) (Ps := [zOb g3 a 0]) rfl (zA ⟨by rw [c3.1]; omega, hs⟩ trivial) ?_
  refine zG_nmh (h := (zup g3.1 a 3 0, g3.2)) (fun g4 e4 => ?_)
  have c4 := zCo_int2 (b := a) (j := 3) (x := 0) c3 (Nat.le_refl _) (by omega) (by rw [zIv, hs]; rfl) (by omega)
  rw [← e4] at c4
  clear e4
  refine zb_vret (h' := g4) (Ps := []) bkAct_init_24 bdAct_init_24 rfl rfl trivial c4.1 ?_
  refine hq _ _ ⟨rfl, zCo_end c4 (fun c j hc hz hp => ?_) (fun _ _ k => k)⟩
  try dsimp only at hp
  by_cases hca : c = a
  · subst hca
    have hj := (zrv_0 hs hz).2
    exact absurd hz (by rw [zrv_n hs (by decide)]; decide)
  clear hz; omega
theorem cAct_init {a : Nat} {h : zHp} (hn : h.2.1 = a + 1) (ha : a + 1 ≤ 98000) (hs : zSh a = (0, 0, 0)) (hf : zFA h a) : zG mAct_init (a + 1) (fun rr h' => rr = none ∧ zMd a (a + 1) h h') 0 [(0, .ref a)] [] h := lAct_init hn ha hs hf (fun _ _ q => q)
theorem bkLoo_init_0 : zBk mLoo_init 0 [(1, 0, 1, 0, 0)] = some 1 := by decide +kernel
theorem bkLoo_init_4 : zBk mLoo_init 4 [(1, 0, 1, 0, 0), (0, 0, 0, 0, 200)] = some 8 := by decide +kernel
theorem bkLoo_init_13 : zBk mLoo_init 13 [(1, 0, 1, 0, 0), (0, 0, 0, 0, 0), (6, 3, 1, 0, 1)] = some 18 := by decide +kernel
theorem bkLoo_init_18 : zBk mLoo_init 18 [] = some 18 := by decide +kernel
theorem bdLoo_init_1 : decode mLoo_init.2.2.1 1 = .ok (.invokespecial 3, 3) := by decide +kernel
theorem bdLoo_init_8 : decode mLoo_init.2.2.1 8 = .ok (.newarray .int, 2) := by decide +kernel
theorem bdLoo_init_10 : decode mLoo_init.2.2.1 10 = .ok (.putfield 9, 3) := by decide +kernel
theorem bdLoo_init_18 : decode mLoo_init.2.2.1 18 = .ok (.return_, 1) := by decide +kernel
set_option maxHeartbeats 4000000 in
theorem lLoo_init {a : Nat} {h : zHp} (hn : h.2.1 = a + 1) (ha : a + 2 ≤ 98000) (hs : zSh a = (0, 3, 0)) (hs1 : zSh (a + 1) = (1, 0, 200)) (hf : zFA h a) {Q : Option Value → zHp → Prop} (hq : ∀ rr h', (rr = none ∧ zMd a (a + 2) h h') → Q rr h') : zG mLoo_init (a + 2) Q 0 [(0, .ref a)] [] h := by
  have c0 := zCo_0 hn hf (by omega)
  have c0 := zCo_w (q' := fun _ _ => False) c0 (fun _ _ _ _ k => k) (fun c j k => k.2 (zIv_0 hs (by decide) (by decide) (by decide)))
  refine zG_run bkLoo_init_0 (lv' := [(0, .ref a)]) (st' := [.ref a]) (h' := h) (Ps := []) rfl trivial ?_
  refine zs_objinit (a := a) bdLoo_init_1 lo3_3 (And.intro (by decide) (by decide)) (Nat.le_of_ble_eq_true rfl) ?_
  refine zG_run bkLoo_init_4 (lv' := [(0, .ref a)]) (st' := [.int 200, .ref a]) (h' := h) (Ps := []) rfl trivial ?_
  refine zc_newI (m := 200) (n := a + 1) c0.1 bdLoo_init_8 hs1 rfl (by omega) (by omega) (c0.2.2.2.2.1 (a + 1) (Nat.le_refl _) (by omega)) ?_
  refine zG_nmh (h := (h.1, a + 1 + 1, h.2.2)) (fun g1 e1 => ?_)
  have c1 := zCo_arr c0 (fun _ => zrv_1 hs1) (fun _ => zIv_1 hs1) (by omega)
  rw [← e1] at c1
  clear e1
  refine zs_putref (c := 3) (j := 0) (a := a) (b := a + 1) (ty := .array .int) bdLoo_init_10 (by decide +kernel) (by decide) (by show _ = _ + 1; omega) (by omega) ⟨by rw [c1.1]; omega, hs⟩ rfl (by decide) (by decide +kernel) (fun _ => rfl) (fun _ => rfl) ?_
  refine zG_nmh (h := (g1.1, g1.2.1, zini g1.2.2 a 0)) (fun g2 e2 => ?_)
  have c2 := zCo_put (b := a) (j := 0) c1 (Nat.le_refl _) (by omega)
  rw [← e2] at c2
  clear e2
  refine zG_run bkLoo_init_13 (lv' := [(0, .ref a)]) (st' := []) (h' := (zup g2.1 a 1 0, g2.2)) (Ps := [zOb g2 a 3]) rfl (zA ⟨by rw [c2.1]; omega, hs⟩ trivial) ?_
  refine zG_nmh (h := (zup g2.1 a 1 0, g2.2)) (fun g3 e3 => ?_)
  have c3 := zCo_int2 (b := a) (j := 1) (x := 0) c2 (Nat.le_refl _) (by omega) (by rw [zIv, hs]; rfl) (by omega)
  rw [← e3] at c3
  clear e3
  refine zb_vret (h' := g3) (Ps := []) bkLoo_init_18 bdLoo_init_18 rfl rfl trivial c3.1 ?_
  refine hq _ _ ⟨rfl, zCo_end c3 (fun c j hc hz hp => ?_) (fun _ _ k => k)⟩
  try dsimp only at hp
  by_cases hca : c = a
  · subst hca
    have hj := zrvc3 hs hz
    simp only [List.mem_cons, List.not_mem_nil, or_false] at hj
    clear hz; omega
  clear hz; omega
theorem cLoo_init {a : Nat} {h : zHp} (hn : h.2.1 = a + 1) (ha : a + 2 ≤ 98000) (hs : zSh a = (0, 3, 0)) (hs1 : zSh (a + 1) = (1, 0, 200)) (hf : zFA h a) : zG mLoo_init (a + 2) (fun rr h' => rr = none ∧ zMd a (a + 2) h h') 0 [(0, .ref a)] [] h := lLoo_init hn ha hs hs1 hf (fun _ _ q => q)
theorem bkTap_init_0 : zBk mTap_init 0 [(1, 0, 1, 0, 0)] = some 1 := by decide +kernel
theorem bkTap_init_4 : zBk mTap_init 4 [(1, 0, 1, 0, 0), (0, 0, 0, 0, 400)] = some 8 := by decide +kernel
theorem bkTap_init_13 : zBk mTap_init 13 [(1, 0, 1, 0, 0), (0, 0, 0, 0, 0), (6, 7, 1, 0, 1)] = some 18 := by decide +kernel
theorem bkTap_init_18 : zBk mTap_init 18 [] = some 18 := by decide +kernel
theorem bdTap_init_1 : decode mTap_init.2.2.1 1 = .ok (.invokespecial 3, 3) := by decide +kernel
theorem bdTap_init_8 : decode mTap_init.2.2.1 8 = .ok (.newarray .int, 2) := by decide +kernel
theorem bdTap_init_10 : decode mTap_init.2.2.1 10 = .ok (.putfield 9, 3) := by decide +kernel
theorem bdTap_init_18 : decode mTap_init.2.2.1 18 = .ok (.return_, 1) := by decide +kernel
set_option maxHeartbeats 4000000 in
theorem lTap_init  {h : zHp} (hn : h.2.1 = 35)  (hf : zFA h 34) {Q : Option Value → zHp → Prop} (hq : ∀ rr h', (rr = none ∧ zMd 34 (36) h h') → Q rr h') : zG mTap_init (36) Q 0 [(0, .ref 34)] [] h := by
  have c0 := zCo_0 hn hf (by omega)
  have c0 := zCo_w (q' := fun _ _ => False) c0 (fun _ _ _ _ k => k) (fun c j k => k.2 (zIv_0 (by decide : zSh 34 = (0, 7, 0)) (by decide) (by decide) (by decide)))
  refine zG_run bkTap_init_0 (lv' := [(0, .ref 34)]) (st' := [.ref 34]) (h' := h) (Ps := []) rfl trivial ?_
  refine zs_objinit (a := 34) bdTap_init_1 lo7_3 (And.intro (by decide) (by decide)) (Nat.le_of_ble_eq_true rfl) ?_
  refine zG_run bkTap_init_4 (lv' := [(0, .ref 34)]) (st' := [.int 400, .ref 34]) (h' := h) (Ps := []) rfl trivial ?_
  refine zc_newI (m := 400) (n := 35) c0.1 bdTap_init_8 (by decide : zSh 35 = (1, 0, 400)) rfl (by omega) (by omega) (c0.2.2.2.2.1 35 (Nat.le_refl _) (by omega)) ?_
  refine zG_nmh (h := (h.1, 35 + 1, h.2.2)) (fun g1 e1 => ?_)
  have c1 := zCo_arr c0 (fun _ => zrv_1 (by decide : zSh 35 = (1, 0, 400))) (fun _ => zIv_1 (by decide : zSh 35 = (1, 0, 400))) (by omega)
  rw [← e1] at c1
  clear e1
  refine zs_putref (c := 7) (j := 0) (a := 34) (b := 35) (ty := .array .int) bdTap_init_10 (by decide +kernel) (by decide) (by show _ = _ + 1; omega) (by omega) ⟨by rw [c1.1]; omega, (by decide : zSh 34 = (0, 7, 0))⟩ rfl (by decide) (by decide +kernel) (fun _ => rfl) (fun _ => rfl) ?_
  refine zG_nmh (h := (g1.1, g1.2.1, zini g1.2.2 34 0)) (fun g2 e2 => ?_)
  have c2 := zCo_put (b := 34) (j := 0) c1 (Nat.le_refl _) (by omega)
  rw [← e2] at c2
  clear e2
  refine zG_run bkTap_init_13 (lv' := [(0, .ref 34)]) (st' := []) (h' := (zup g2.1 34 1 0, g2.2)) (Ps := [zOb g2 34 7]) rfl (zA ⟨by rw [c2.1]; omega, (by decide : zSh 34 = (0, 7, 0))⟩ trivial) ?_
  refine zG_nmh (h := (zup g2.1 34 1 0, g2.2)) (fun g3 e3 => ?_)
  have c3 := zCo_int2 (b := 34) (j := 1) (x := 0) c2 (Nat.le_refl _) (by omega) (by rw [zIv, (by decide : zSh 34 = (0, 7, 0))]; rfl) (by omega)
  rw [← e3] at c3
  clear e3
  refine zb_vret (h' := g3) (Ps := []) bkTap_init_18 bdTap_init_18 rfl rfl trivial c3.1 ?_
  refine hq _ _ ⟨rfl, zCo_end c3 (fun c j hc hz hp => ?_) (fun _ _ k => k)⟩
  try dsimp only at hp
  by_cases hca : c = 34
  · subst hca
    have hj := zrvc7 (by decide : zSh 34 = (0, 7, 0)) hz
    simp only [List.mem_cons, List.not_mem_nil, or_false] at hj
    clear hz; omega
  clear hz; omega
theorem cTap_init  {h : zHp} (hn : h.2.1 = 35)  (hf : zFA h 34) : zG mTap_init (36) (fun rr h' => rr = none ∧ zMd 34 (36) h h') 0 [(0, .ref 34)] [] h := lTap_init hn hf (fun _ _ q => q)
theorem bkRea_init_0 : zBk mRea_init 0 [(1, 0, 1, 0, 0)] = some 1 := by decide +kernel
theorem bkRea_init_4 : zBk mRea_init 4 [(1, 0, 1, 0, 0), (0, 0, 0, 0, 200)] = some 8 := by decide +kernel
theorem bkRea_init_13 : zBk mRea_init 13 [(1, 0, 1, 0, 0), (0, 0, 0, 0, 200)] = some 17 := by decide +kernel
theorem bkRea_init_22 : zBk mRea_init 22 [(1, 0, 1, 0, 0), (0, 0, 0, 0, 0), (6, 4, 2, 0, 2)] = some 27 := by decide +kernel
theorem bkRea_init_27 : zBk mRea_init 27 [(1, 0, 1, 0, 0), (0, 0, 0, 0, -1), (6, 4, 3, 0, 3)] = some 32 := by decide +kernel
theorem bkRea_init_32 : zBk mRea_init 32 [(1, 0, 1, 0, 0), (0, 0, 0, 0, 8)] = some 35 := by decide +kernel
theorem bkRea_init_40 : zBk mRea_init 40 [(1, 0, 1, 0, 0), (0, 0, 0, 0, 9)] = some 43 := by decide +kernel
theorem bkRea_init_48 : zBk mRea_init 48 [(1, 0, 1, 0, 0), (0, 0, 0, 0, 0), (6, 4, 6, 0, 6)] = some 53 := by decide +kernel
theorem bkRea_init_53 : zBk mRea_init 53 [] = some 53 := by decide +kernel
theorem bdRea_init_1 : decode mRea_init.2.2.1 1 = .ok (.invokespecial 3, 3) := by decide +kernel
theorem bdRea_init_8 : decode mRea_init.2.2.1 8 = .ok (.newarray .int, 2) := by decide +kernel
theorem bdRea_init_10 : decode mRea_init.2.2.1 10 = .ok (.putfield 9, 3) := by decide +kernel
theorem bdRea_init_17 : decode mRea_init.2.2.1 17 = .ok (.newarray .int, 2) := by decide +kernel
theorem bdRea_init_19 : decode mRea_init.2.2.1 19 = .ok (.putfield 15, 3) := by decide +kernel
theorem bdRea_init_35 : decode mRea_init.2.2.1 35 = .ok (.newarray .int, 2) := by decide +kernel
theorem bdRea_init_37 : decode mRea_init.2.2.1 37 = .ok (.putfield 25, 3) := by decide +kernel
theorem bdRea_init_43 : decode mRea_init.2.2.1 43 = .ok (.newarray .int, 2) := by decide +kernel
theorem bdRea_init_45 : decode mRea_init.2.2.1 45 = .ok (.putfield 28, 3) := by decide +kernel
theorem bdRea_init_53 : decode mRea_init.2.2.1 53 = .ok (.return_, 1) := by decide +kernel
set_option maxHeartbeats 4000000 in
theorem lRea_init  {h : zHp} (hn : h.2.1 = 318)  (hf : zFA h 317) {Q : Option Value → zHp → Prop} (hq : ∀ rr h', (rr = none ∧ zMd 317 (322) h h') → Q rr h') : zG mRea_init (322) Q 0 [(0, .ref 317)] [] h := by
  have c0 := zCo_0 hn hf (by omega)
  refine zG_run bkRea_init_0 (lv' := [(0, .ref 317)]) (st' := [.ref 317]) (h' := h) (Ps := []) rfl trivial ?_
  refine zs_objinit (a := 317) bdRea_init_1 lo4_3 (And.intro (by decide) (by decide)) (Nat.le_of_ble_eq_true rfl) ?_
  refine zG_run bkRea_init_4 (lv' := [(0, .ref 317)]) (st' := [.int 200, .ref 317]) (h' := h) (Ps := []) rfl trivial ?_
  refine zc_newI (m := 200) (n := 318) c0.1 bdRea_init_8 (by decide : zSh 318 = (1, 0, 200)) rfl (by omega) (by omega) (c0.2.2.2.2.1 318 (Nat.le_refl _) (by omega)) ?_
  refine zG_nmh (h := (h.1, 318 + 1, h.2.2)) (fun g1 e1 => ?_)
  have c1 := zCo_arr c0 (fun _ => zrv_1 (by decide : zSh 318 = (1, 0, 200))) (fun _ => zIv_1 (by decide : zSh 318 = (1, 0, 200))) (by omega)
  rw [← e1] at c1
  clear e1
  refine zs_putref (c := 4) (j := 0) (a := 317) (b := 318) (ty := .array .int) bdRea_init_10 (by decide +kernel) (by decide) (by show _ = _ + 1; omega) (by omega) ⟨by rw [c1.1]; omega, (by decide : zSh 317 = (0, 4, 0))⟩ rfl (by decide) (by decide +kernel) (fun _ => rfl) (fun _ => rfl) ?_
  refine zG_nmh (h := (g1.1, g1.2.1, zini g1.2.2 317 0)) (fun g2 e2 => ?_)
  have c2 := zCo_put (b := 317) (j := 0) c1 (Nat.le_refl _) (by omega)
  rw [← e2] at c2
  clear e2
  refine zG_run bkRea_init_13 (lv' := [(0, .ref 317)]) (st' := [.int 200, .ref 317]) (h' := g2) (Ps := []) rfl trivial ?_
  refine zc_newI (m := 200) (n := 319) c2.1 bdRea_init_17 (by decide : zSh 319 = (1, 0, 200)) rfl (by omega) (by omega) (c2.2.2.2.2.1 319 (Nat.le_refl _) (by omega)) ?_
  refine zG_nmh (h := (g2.1, 319 + 1, g2.2.2)) (fun g3 e3 => ?_)
  have c3 := zCo_arr c2 (fun _ => zrv_1 (by decide : zSh 319 = (1, 0, 200))) (fun _ => zIv_1 (by decide : zSh 319 = (1, 0, 200))) (by omega)
  rw [← e3] at c3
  clear e3
  refine zs_putref (c := 4) (j := 1) (a := 317) (b := 319) (ty := .array .int) bdRea_init_19 (by decide +kernel) (by decide) (by show _ = _ + 2; omega) (by omega) ⟨by rw [c3.1]; omega, (by decide : zSh 317 = (0, 4, 0))⟩ rfl (by decide) (by decide +kernel) (fun _ => rfl) (fun _ => rfl) ?_
  refine zG_nmh (h := (g3.1, g3.2.1, zini g3.2.2 317 1)) (fun g4 e4 => ?_)
  have c4 := zCo_put (b := 317) (j := 1) c3 (Nat.le_refl _) (by omega)
  rw [← e4] at c4
  clear e4
  refine zG_run bkRea_init_22 (lv' := [(0, .ref 317)]) (st' := []) (h' := (zup g4.1 317 2 0, g4.2)) (Ps := [zOb g4 317 4]) rfl (zA ⟨by rw [c4.1]; omega, (by decide : zSh 317 = (0, 4, 0))⟩ trivial) ?_
  refine zG_nmh (h := (zup g4.1 317 2 0, g4.2)) (fun g5 e5 => ?_)
  have c5 := zCo_int2 (b := 317) (j := 2) (x := 0) c4 (Nat.le_refl _) (by omega) (by rw [zIv, (by decide : zSh 317 = (0, 4, 0))]; rfl) (by omega)
  rw [← e5] at c5
  clear e5
  refine zG_run bkRea_init_27 (lv' := [(0, .ref 317)]) (st' := []) (h' := (zup g5.1 317 3 (-1), g5.2)) (Ps := [zOb g5 317 4]) rfl (zA ⟨by rw [c5.1]; omega, (by decide : zSh 317 = (0, 4, 0))⟩ trivial) ?_
  refine zG_nmh (h := (zup g5.1 317 3 (-1), g5.2)) (fun g6 e6 => ?_)
  have c6 := zCo_w (q' := fun _ _ => False) (zCo_int (b := 317) (j := 3) (x := (-1)) c5 (Nat.le_refl _) (by omega) (by rw [zIv, (by decide : zSh 317 = (0, 4, 0))]; rfl) (by omega)) (fun _ _ _ _ k => k) (fun c j k => k.2 ⟨k.1.1, zIv_m (f := 3) (by decide : zSh 317 = (0, 4, 0)) (by decide) k.1.2⟩)
  rw [← e6] at c6
  clear e6
  refine zG_run bkRea_init_32 (lv' := [(0, .ref 317)]) (st' := [.int 8, .ref 317]) (h' := g6) (Ps := []) rfl trivial ?_
  refine zc_newI (m := 8) (n := 320) c6.1 bdRea_init_35 (by decide : zSh 320 = (1, 0, 8)) rfl (by omega) (by omega) (c6.2.2.2.2.1 320 (Nat.le_refl _) (by omega)) ?_
  refine zG_nmh (h := (g6.1, 320 + 1, g6.2.2)) (fun g7 e7 => ?_)
  have c7 := zCo_arr c6 (fun _ => zrv_1 (by decide : zSh 320 = (1, 0, 8))) (fun _ => zIv_1 (by decide : zSh 320 = (1, 0, 8))) (by omega)
  rw [← e7] at c7
  clear e7
  refine zs_putref (c := 4) (j := 4) (a := 317) (b := 320) (ty := .array .int) bdRea_init_37 (by decide +kernel) (by decide) (by show _ = _ + 3; omega) (by omega) ⟨by rw [c7.1]; omega, (by decide : zSh 317 = (0, 4, 0))⟩ rfl (by decide) (by decide +kernel) (fun _ => rfl) (fun _ => rfl) ?_
  refine zG_nmh (h := (g7.1, g7.2.1, zini g7.2.2 317 4)) (fun g8 e8 => ?_)
  have c8 := zCo_put (b := 317) (j := 4) c7 (Nat.le_refl _) (by omega)
  rw [← e8] at c8
  clear e8
  refine zG_run bkRea_init_40 (lv' := [(0, .ref 317)]) (st' := [.int 9, .ref 317]) (h' := g8) (Ps := []) rfl trivial ?_
  refine zc_newI (m := 9) (n := 321) c8.1 bdRea_init_43 (by decide : zSh 321 = (1, 0, 9)) rfl (by omega) (by omega) (c8.2.2.2.2.1 321 (Nat.le_refl _) (by omega)) ?_
  refine zG_nmh (h := (g8.1, 321 + 1, g8.2.2)) (fun g9 e9 => ?_)
  have c9 := zCo_arr c8 (fun _ => zrv_1 (by decide : zSh 321 = (1, 0, 9))) (fun _ => zIv_1 (by decide : zSh 321 = (1, 0, 9))) (by omega)
  rw [← e9] at c9
  clear e9
  refine zs_putref (c := 4) (j := 5) (a := 317) (b := 321) (ty := .array .int) bdRea_init_45 (by decide +kernel) (by decide) (by show _ = _ + 4; omega) (by omega) ⟨by rw [c9.1]; omega, (by decide : zSh 317 = (0, 4, 0))⟩ rfl (by decide) (by decide +kernel) (fun _ => rfl) (fun _ => rfl) ?_
  refine zG_nmh (h := (g9.1, g9.2.1, zini g9.2.2 317 5)) (fun g10 e10 => ?_)
  have c10 := zCo_put (b := 317) (j := 5) c9 (Nat.le_refl _) (by omega)
  rw [← e10] at c10
  clear e10
  refine zG_run bkRea_init_48 (lv' := [(0, .ref 317)]) (st' := []) (h' := (zup g10.1 317 6 0, g10.2)) (Ps := [zOb g10 317 4]) rfl (zA ⟨by rw [c10.1]; omega, (by decide : zSh 317 = (0, 4, 0))⟩ trivial) ?_
  refine zG_nmh (h := (zup g10.1 317 6 0, g10.2)) (fun g11 e11 => ?_)
  have c11 := zCo_int2 (b := 317) (j := 6) (x := 0) c10 (Nat.le_refl _) (by omega) (by rw [zIv, (by decide : zSh 317 = (0, 4, 0))]; rfl) (by omega)
  rw [← e11] at c11
  clear e11
  refine zb_vret (h' := g11) (Ps := []) bkRea_init_53 bdRea_init_53 rfl rfl trivial c11.1 ?_
  refine hq _ _ ⟨rfl, zCo_end c11 (fun c j hc hz hp => ?_) (fun _ _ k => k)⟩
  try dsimp only at hp
  by_cases hca : c = 317
  · subst hca
    have hj := zrvc4 (by decide : zSh 317 = (0, 4, 0)) hz
    simp only [List.mem_cons, List.not_mem_nil, or_false] at hj
    clear hz; omega
  clear hz; omega
theorem cRea_init  {h : zHp} (hn : h.2.1 = 318)  (hf : zFA h 317) : zG mRea_init (322) (fun rr h' => rr = none ∧ zMd 317 (322) h h') 0 [(0, .ref 317)] [] h := lRea_init hn hf (fun _ _ q => q)
theorem bkWri_init_0 : zBk mWri_init 0 [(1, 0, 1, 0, 0)] = some 1 := by decide +kernel
theorem bkWri_init_4 : zBk mWri_init 4 [(1, 0, 1, 0, 0), (0, 0, 0, 0, 400)] = some 8 := by decide +kernel
theorem bkWri_init_13 : zBk mWri_init 13 [(1, 0, 1, 0, 0), (0, 0, 0, 0, 0), (6, 8, 1, 0, 1)] = some 18 := by decide +kernel
theorem bkWri_init_18 : zBk mWri_init 18 [(1, 0, 1, 0, 0), (11, 0, 0, 0, 0), (10, 0, 0, 0, 0)] = some 23 := by decide +kernel
theorem bkWri_init_28 : zBk mWri_init 28 [(1, 0, 1, 0, 0), (11, 0, 0, 0, 0), (10, 0, 0, 0, 0)] = some 33 := by decide +kernel
theorem bkWri_init_38 : zBk mWri_init 38 [(1, 0, 1, 0, 0), (0, 0, 0, 0, 0), (6, 8, 4, 0, 4)] = some 43 := by decide +kernel
theorem bkWri_init_43 : zBk mWri_init 43 [] = some 43 := by decide +kernel
theorem bdWri_init_1 : decode mWri_init.2.2.1 1 = .ok (.invokespecial 3, 3) := by decide +kernel
theorem bdWri_init_8 : decode mWri_init.2.2.1 8 = .ok (.newarray .int, 2) := by decide +kernel
theorem bdWri_init_10 : decode mWri_init.2.2.1 10 = .ok (.putfield 9, 3) := by decide +kernel
theorem bdWri_init_23 : decode mWri_init.2.2.1 23 = .ok (.newarray .int, 2) := by decide +kernel
theorem bdWri_init_25 : decode mWri_init.2.2.1 25 = .ok (.putfield 22, 3) := by decide +kernel
theorem bdWri_init_33 : decode mWri_init.2.2.1 33 = .ok (.newarray .int, 2) := by decide +kernel
theorem bdWri_init_35 : decode mWri_init.2.2.1 35 = .ok (.putfield 25, 3) := by decide +kernel
theorem bdWri_init_43 : decode mWri_init.2.2.1 43 = .ok (.return_, 1) := by decide +kernel
set_option maxHeartbeats 4000000 in
theorem lWri_init  {h : zHp} (hn : h.2.1 = 323)  (hf : zFA h 322) {Q : Option Value → zHp → Prop} (hq : ∀ rr h', (rr = none ∧ zMd 322 (326) h h') → Q rr h') : zG mWri_init (326) Q 0 [(0, .ref 322)] [] h := by
  have c0 := zCo_0 hn hf (by omega)
  have c0 := zCo_w (q' := fun _ _ => False) c0 (fun _ _ _ _ k => k) (fun c j k => k.2 (zIv_0 (by decide : zSh 322 = (0, 8, 0)) (by decide) (by decide) (by decide)))
  refine zG_run bkWri_init_0 (lv' := [(0, .ref 322)]) (st' := [.ref 322]) (h' := h) (Ps := []) rfl trivial ?_
  refine zs_objinit (a := 322) bdWri_init_1 lo8_3 (And.intro (by decide) (by decide)) (Nat.le_of_ble_eq_true rfl) ?_
  refine zG_run bkWri_init_4 (lv' := [(0, .ref 322)]) (st' := [.int 400, .ref 322]) (h' := h) (Ps := []) rfl trivial ?_
  refine zc_newI (m := 400) (n := 323) c0.1 bdWri_init_8 (by decide : zSh 323 = (1, 0, 400)) rfl (by omega) (by omega) (c0.2.2.2.2.1 323 (Nat.le_refl _) (by omega)) ?_
  refine zG_nmh (h := (h.1, 323 + 1, h.2.2)) (fun g1 e1 => ?_)
  have c1 := zCo_arr c0 (fun _ => zrv_1 (by decide : zSh 323 = (1, 0, 400))) (fun _ => zIv_1 (by decide : zSh 323 = (1, 0, 400))) (by omega)
  rw [← e1] at c1
  clear e1
  refine zs_putref (c := 8) (j := 0) (a := 322) (b := 323) (ty := .array .int) bdWri_init_10 (by decide +kernel) (by decide) (by show _ = _ + 1; omega) (by omega) ⟨by rw [c1.1]; omega, (by decide : zSh 322 = (0, 8, 0))⟩ rfl (by decide) (by decide +kernel) (fun _ => rfl) (fun _ => rfl) ?_
  refine zG_nmh (h := (g1.1, g1.2.1, zini g1.2.2 322 0)) (fun g2 e2 => ?_)
  have c2 := zCo_put (b := 322) (j := 0) c1 (Nat.le_refl _) (by omega)
  rw [← e2] at c2
  clear e2
  refine zG_run bkWri_init_13 (lv' := [(0, .ref 322)]) (st' := []) (h' := (zup g2.1 322 1 0, g2.2)) (Ps := [zOb g2 322 8]) rfl (zA ⟨by rw [c2.1]; omega, (by decide : zSh 322 = (0, 8, 0))⟩ trivial) ?_
  refine zG_nmh (h := (zup g2.1 322 1 0, g2.2)) (fun g3 e3 => ?_)
  have c3 := zCo_int2 (b := 322) (j := 1) (x := 0) c2 (Nat.le_refl _) (by omega) (by rw [zIv, (by decide : zSh 322 = (0, 8, 0))]; rfl) (by omega)
  rw [← e3] at c3
  clear e3
  refine zG_run bkWri_init_18 (lv' := [(0, .ref 322)]) (st' := [.int 6, .ref 322]) (h' := g3) (Ps := [(100000 < g3.2.1 ∧ (zSh 100000).1 = 1 ∧ (zSh 100000).2.1 < 3) ∨ (100000 : Nat) = 100000 ∨ (100000 : Nat) = 100001]) rfl (zA (Or.inr (Or.inl rfl)) trivial) ?_
  refine zc_newI (m := 6) (n := 324) c3.1 bdWri_init_23 (by decide : zSh 324 = (1, 0, 6)) rfl (by omega) (by omega) (c3.2.2.2.2.1 324 (Nat.le_refl _) (by omega)) ?_
  refine zG_nmh (h := (g3.1, 324 + 1, g3.2.2)) (fun g4 e4 => ?_)
  have c4 := zCo_arr c3 (fun _ => zrv_1 (by decide : zSh 324 = (1, 0, 6))) (fun _ => zIv_1 (by decide : zSh 324 = (1, 0, 6))) (by omega)
  rw [← e4] at c4
  clear e4
  refine zs_putref (c := 8) (j := 2) (a := 322) (b := 324) (ty := .array .int) bdWri_init_25 (by decide +kernel) (by decide) (by show _ = _ + 2; omega) (by omega) ⟨by rw [c4.1]; omega, (by decide : zSh 322 = (0, 8, 0))⟩ rfl (by decide) (by decide +kernel) (fun _ => rfl) (fun _ => rfl) ?_
  refine zG_nmh (h := (g4.1, g4.2.1, zini g4.2.2 322 2)) (fun g5 e5 => ?_)
  have c5 := zCo_put (b := 322) (j := 2) c4 (Nat.le_refl _) (by omega)
  rw [← e5] at c5
  clear e5
  refine zG_run bkWri_init_28 (lv' := [(0, .ref 322)]) (st' := [.int 6, .ref 322]) (h' := g5) (Ps := [(100000 < g5.2.1 ∧ (zSh 100000).1 = 1 ∧ (zSh 100000).2.1 < 3) ∨ (100000 : Nat) = 100000 ∨ (100000 : Nat) = 100001]) rfl (zA (Or.inr (Or.inl rfl)) trivial) ?_
  refine zc_newI (m := 6) (n := 325) c5.1 bdWri_init_33 (by decide : zSh 325 = (1, 0, 6)) rfl (by omega) (by omega) (c5.2.2.2.2.1 325 (Nat.le_refl _) (by omega)) ?_
  refine zG_nmh (h := (g5.1, 325 + 1, g5.2.2)) (fun g6 e6 => ?_)
  have c6 := zCo_arr c5 (fun _ => zrv_1 (by decide : zSh 325 = (1, 0, 6))) (fun _ => zIv_1 (by decide : zSh 325 = (1, 0, 6))) (by omega)
  rw [← e6] at c6
  clear e6
  refine zs_putref (c := 8) (j := 3) (a := 322) (b := 325) (ty := .array .int) bdWri_init_35 (by decide +kernel) (by decide) (by show _ = _ + 3; omega) (by omega) ⟨by rw [c6.1]; omega, (by decide : zSh 322 = (0, 8, 0))⟩ rfl (by decide) (by decide +kernel) (fun _ => rfl) (fun _ => rfl) ?_
  refine zG_nmh (h := (g6.1, g6.2.1, zini g6.2.2 322 3)) (fun g7 e7 => ?_)
  have c7 := zCo_put (b := 322) (j := 3) c6 (Nat.le_refl _) (by omega)
  rw [← e7] at c7
  clear e7
  refine zG_run bkWri_init_38 (lv' := [(0, .ref 322)]) (st' := []) (h' := (zup g7.1 322 4 0, g7.2)) (Ps := [zOb g7 322 8]) rfl (zA ⟨by rw [c7.1]; omega, (by decide : zSh 322 = (0, 8, 0))⟩ trivial) ?_
  refine zG_nmh (h := (zup g7.1 322 4 0, g7.2)) (fun g8 e8 => ?_)
  have c8 := zCo_int2 (b := 322) (j := 4) (x := 0) c7 (Nat.le_refl _) (by omega) (by rw [zIv, (by decide : zSh 322 = (0, 8, 0))]; rfl) (by omega)
  rw [← e8] at c8
  clear e8
  refine zb_vret (h' := g8) (Ps := []) bkWri_init_43 bdWri_init_43 rfl rfl trivial c8.1 ?_
  refine hq _ _ ⟨rfl, zCo_end c8 (fun c j hc hz hp => ?_) (fun _ _ k => k)⟩
  try dsimp only at hp
  by_cases hca : c = 322
  · subst hca
    have hj := zrvc8 (by decide : zSh 322 = (0, 8, 0)) hz
    simp only [List.mem_cons, List.not_mem_nil, or_false] at hj
    clear hz; omega
  clear hz; omega
theorem cWri_init  {h : zHp} (hn : h.2.1 = 323)  (hf : zFA h 322) : zG mWri_init (326) (fun rr h' => rr = none ∧ zMd 322 (326) h h') 0 [(0, .ref 322)] [] h := lWri_init hn hf (fun _ _ q => q)
theorem bkMo_init_0 : zBk mMo_init 0 [(1, 0, 1, 0, 0)] = some 1 := by decide +kernel
theorem bkMo_init_4 : zBk mMo_init 4 [(1, 0, 1, 0, 0), (0, 0, 0, 0, 7)] = some 7 := by decide +kernel
theorem bkMo_init_12 : zBk mMo_init 12 [(1, 0, 1, 0, 0), (0, 0, 0, 0, 995)] = some 16 := by decide +kernel
theorem bkMo_init_21 : zBk mMo_init 21 [(1, 0, 1, 0, 0), (0, 0, 0, 0, 7960)] = some 25 := by decide +kernel
theorem bkMo_init_30 : zBk mMo_init 30 [(1, 0, 1, 0, 0), (0, 0, 0, 0, 8)] = some 33 := by decide +kernel
theorem bkMo_init_38 : zBk mMo_init 38 [(1, 0, 1, 0, 0), (0, 0, 0, 0, 24)] = some 41 := by decide +kernel
theorem bkMo_init_46 : zBk mMo_init 46 [(1, 0, 1, 0, 0), (0, 0, 0, 0, 1990)] = some 50 := by decide +kernel
theorem bkMo_init_55 : zBk mMo_init 55 [(1, 0, 1, 0, 0), (0, 0, 0, 0, 2)] = some 57 := by decide +kernel
theorem bkMo_init_62 : zBk mMo_init 62 [(1, 0, 1, 0, 0), (0, 0, 0, 0, 400)] = some 66 := by decide +kernel
theorem bkMo_init_71 : zBk mMo_init 71 [(1, 0, 1, 0, 0), (0, 0, 0, 0, -1), (6, 10, 12, 0, 12)] = some 76 := by decide +kernel
theorem bkMo_init_76 : zBk mMo_init 76 [(1, 0, 1, 0, 0), (0, 0, 0, 0, 16)] = some 79 := by decide +kernel
theorem bkMo_init_84 : zBk mMo_init 84 [(1, 0, 1, 0, 0), (0, 0, 0, 0, 12)] = some 87 := by decide +kernel
theorem bkMo_init_92 : zBk mMo_init 92 [(1, 0, 1, 0, 0), (0, 0, 0, 0, 800)] = some 96 := by decide +kernel
theorem bkMo_init_101 : zBk mMo_init 101 [(1, 0, 1, 0, 0), (0, 0, 0, 0, 800)] = some 105 := by decide +kernel
theorem bkMo_init_110 : zBk mMo_init 110 [(1, 0, 1, 0, 0), (0, 0, 0, 0, 8)] = some 113 := by decide +kernel
theorem bkMo_init_118 : zBk mMo_init 118 [(1, 0, 1, 0, 0), (0, 0, 0, 0, 8)] = some 121 := by decide +kernel
theorem bkMo_init_126 : zBk mMo_init 126 [(1, 0, 1, 0, 0), (0, 0, 0, 0, 10000)] = some 130 := by decide +kernel
theorem bkMo_init_135 : zBk mMo_init 135 [(1, 0, 1, 0, 0), (0, 0, 0, 0, 201)] = some 139 := by decide +kernel
theorem bkMo_init_144 : zBk mMo_init 144 [(1, 0, 1, 0, 0), (0, 0, 0, 0, 200)] = some 148 := by decide +kernel
theorem bkMo_init_153 : zBk mMo_init 153 [] = some 153 := by decide +kernel
theorem bdMo_init_1 : decode mMo_init.2.2.1 1 = .ok (.invokespecial 1, 3) := by decide +kernel
theorem bdMo_init_7 : decode mMo_init.2.2.1 7 = .ok (.newarray .int, 2) := by decide +kernel
theorem bdMo_init_9 : decode mMo_init.2.2.1 9 = .ok (.putfield 7, 3) := by decide +kernel
theorem bdMo_init_16 : decode mMo_init.2.2.1 16 = .ok (.newarray .int, 2) := by decide +kernel
theorem bdMo_init_18 : decode mMo_init.2.2.1 18 = .ok (.putfield 13, 3) := by decide +kernel
theorem bdMo_init_25 : decode mMo_init.2.2.1 25 = .ok (.newarray .int, 2) := by decide +kernel
theorem bdMo_init_27 : decode mMo_init.2.2.1 27 = .ok (.putfield 16, 3) := by decide +kernel
theorem bdMo_init_33 : decode mMo_init.2.2.1 33 = .ok (.newarray .int, 2) := by decide +kernel
theorem bdMo_init_35 : decode mMo_init.2.2.1 35 = .ok (.putfield 19, 3) := by decide +kernel
theorem bdMo_init_41 : decode mMo_init.2.2.1 41 = .ok (.newarray .int, 2) := by decide +kernel
theorem bdMo_init_43 : decode mMo_init.2.2.1 43 = .ok (.putfield 22, 3) := by decide +kernel
theorem bdMo_init_50 : decode mMo_init.2.2.1 50 = .ok (.newarray .int, 2) := by decide +kernel
theorem bdMo_init_52 : decode mMo_init.2.2.1 52 = .ok (.putfield 25, 3) := by decide +kernel
theorem bdMo_init_57 : decode mMo_init.2.2.1 57 = .ok (.newarray .boolean, 2) := by decide +kernel
theorem bdMo_init_59 : decode mMo_init.2.2.1 59 = .ok (.putfield 28, 3) := by decide +kernel
theorem bdMo_init_66 : decode mMo_init.2.2.1 66 = .ok (.newarray .byte, 2) := by decide +kernel
theorem bdMo_init_68 : decode mMo_init.2.2.1 68 = .ok (.putfield 32, 3) := by decide +kernel
theorem bdMo_init_79 : decode mMo_init.2.2.1 79 = .ok (.newarray .boolean, 2) := by decide +kernel
theorem bdMo_init_81 : decode mMo_init.2.2.1 81 = .ok (.putfield 40, 3) := by decide +kernel
theorem bdMo_init_87 : decode mMo_init.2.2.1 87 = .ok (.newarray .boolean, 2) := by decide +kernel
theorem bdMo_init_89 : decode mMo_init.2.2.1 89 = .ok (.putfield 43, 3) := by decide +kernel
theorem bdMo_init_96 : decode mMo_init.2.2.1 96 = .ok (.newarray .int, 2) := by decide +kernel
theorem bdMo_init_98 : decode mMo_init.2.2.1 98 = .ok (.putfield 46, 3) := by decide +kernel
theorem bdMo_init_105 : decode mMo_init.2.2.1 105 = .ok (.newarray .int, 2) := by decide +kernel
theorem bdMo_init_107 : decode mMo_init.2.2.1 107 = .ok (.putfield 49, 3) := by decide +kernel
theorem bdMo_init_113 : decode mMo_init.2.2.1 113 = .ok (.newarray .int, 2) := by decide +kernel
theorem bdMo_init_115 : decode mMo_init.2.2.1 115 = .ok (.putfield 52, 3) := by decide +kernel
theorem bdMo_init_121 : decode mMo_init.2.2.1 121 = .ok (.newarray .int, 2) := by decide +kernel
theorem bdMo_init_123 : decode mMo_init.2.2.1 123 = .ok (.putfield 55, 3) := by decide +kernel
theorem bdMo_init_130 : decode mMo_init.2.2.1 130 = .ok (.newarray .byte, 2) := by decide +kernel
theorem bdMo_init_132 : decode mMo_init.2.2.1 132 = .ok (.putfield 58, 3) := by decide +kernel
theorem bdMo_init_139 : decode mMo_init.2.2.1 139 = .ok (.newarray .int, 2) := by decide +kernel
theorem bdMo_init_141 : decode mMo_init.2.2.1 141 = .ok (.putfield 61, 3) := by decide +kernel
theorem bdMo_init_148 : decode mMo_init.2.2.1 148 = .ok (.newarray .int, 2) := by decide +kernel
theorem bdMo_init_150 : decode mMo_init.2.2.1 150 = .ok (.putfield 64, 3) := by decide +kernel
theorem bdMo_init_153 : decode mMo_init.2.2.1 153 = .ok (.return_, 1) := by decide +kernel
set_option maxHeartbeats 4000000 in
theorem lMo_init  {h : zHp} (hn : h.2.1 = 394)  (hf : zFA h 393) {Q : Option Value → zHp → Prop} (hq : ∀ rr h', (rr = none ∧ zMd 393 (411) h h') → Q rr h') : zG mMo_init (411) Q 0 [(0, .ref 393)] [] h := by
  have c0 := zCo_0 hn hf (by omega)
  refine zG_run bkMo_init_0 (lv' := [(0, .ref 393)]) (st' := [.ref 393]) (h' := h) (Ps := []) rfl trivial ?_
  refine zs_objinit (a := 393) bdMo_init_1 lo10_1 (And.intro (by decide) (by decide)) (Nat.le_of_ble_eq_true rfl) ?_
  refine zG_run bkMo_init_4 (lv' := [(0, .ref 393)]) (st' := [.int 7, .ref 393]) (h' := h) (Ps := []) rfl trivial ?_
  refine zc_newI (m := 7) (n := 394) c0.1 bdMo_init_7 (by decide : zSh 394 = (1, 0, 7)) rfl (by omega) (by omega) (c0.2.2.2.2.1 394 (Nat.le_refl _) (by omega)) ?_
  refine zG_nmh (h := (h.1, 394 + 1, h.2.2)) (fun g1 e1 => ?_)
  have c1 := zCo_arr c0 (fun _ => zrv_1 (by decide : zSh 394 = (1, 0, 7))) (fun _ => zIv_1 (by decide : zSh 394 = (1, 0, 7))) (by omega)
  rw [← e1] at c1
  clear e1
  refine zs_putref (c := 10) (j := 2) (a := 393) (b := 394) (ty := .array .int) bdMo_init_9 (by decide +kernel) (by decide) (by show _ = _ + 1; omega) (by omega) ⟨by rw [c1.1]; omega, (by decide : zSh 393 = (0, 10, 0))⟩ rfl (by decide) (by decide +kernel) (fun _ => rfl) (fun _ => rfl) ?_
  refine zG_nmh (h := (g1.1, g1.2.1, zini g1.2.2 393 2)) (fun g2 e2 => ?_)
  have c2 := zCo_put (b := 393) (j := 2) c1 (Nat.le_refl _) (by omega)
  rw [← e2] at c2
  clear e2
  refine zG_run bkMo_init_12 (lv' := [(0, .ref 393)]) (st' := [.int 995, .ref 393]) (h' := g2) (Ps := []) rfl trivial ?_
  refine zc_newI (m := 995) (n := 395) c2.1 bdMo_init_16 (by decide : zSh 395 = (1, 0, 995)) rfl (by omega) (by omega) (c2.2.2.2.2.1 395 (Nat.le_refl _) (by omega)) ?_
  refine zG_nmh (h := (g2.1, 395 + 1, g2.2.2)) (fun g3 e3 => ?_)
  have c3 := zCo_arr c2 (fun _ => zrv_1 (by decide : zSh 395 = (1, 0, 995))) (fun _ => zIv_1 (by decide : zSh 395 = (1, 0, 995))) (by omega)
  rw [← e3] at c3
  clear e3
  refine zs_putref (c := 10) (j := 3) (a := 393) (b := 395) (ty := .array .int) bdMo_init_18 (by decide +kernel) (by decide) (by show _ = _ + 2; omega) (by omega) ⟨by rw [c3.1]; omega, (by decide : zSh 393 = (0, 10, 0))⟩ rfl (by decide) (by decide +kernel) (fun _ => rfl) (fun _ => rfl) ?_
  refine zG_nmh (h := (g3.1, g3.2.1, zini g3.2.2 393 3)) (fun g4 e4 => ?_)
  have c4 := zCo_put (b := 393) (j := 3) c3 (Nat.le_refl _) (by omega)
  rw [← e4] at c4
  clear e4
  refine zG_run bkMo_init_21 (lv' := [(0, .ref 393)]) (st' := [.int 7960, .ref 393]) (h' := g4) (Ps := []) rfl trivial ?_
  refine zc_newI (m := 7960) (n := 396) c4.1 bdMo_init_25 (by decide : zSh 396 = (1, 0, 7960)) rfl (by omega) (by omega) (c4.2.2.2.2.1 396 (Nat.le_refl _) (by omega)) ?_
  refine zG_nmh (h := (g4.1, 396 + 1, g4.2.2)) (fun g5 e5 => ?_)
  have c5 := zCo_arr c4 (fun _ => zrv_1 (by decide : zSh 396 = (1, 0, 7960))) (fun _ => zIv_1 (by decide : zSh 396 = (1, 0, 7960))) (by omega)
  rw [← e5] at c5
  clear e5
  refine zs_putref (c := 10) (j := 4) (a := 393) (b := 396) (ty := .array .int) bdMo_init_27 (by decide +kernel) (by decide) (by show _ = _ + 3; omega) (by omega) ⟨by rw [c5.1]; omega, (by decide : zSh 393 = (0, 10, 0))⟩ rfl (by decide) (by decide +kernel) (fun _ => rfl) (fun _ => rfl) ?_
  refine zG_nmh (h := (g5.1, g5.2.1, zini g5.2.2 393 4)) (fun g6 e6 => ?_)
  have c6 := zCo_put (b := 393) (j := 4) c5 (Nat.le_refl _) (by omega)
  rw [← e6] at c6
  clear e6
  refine zG_run bkMo_init_30 (lv' := [(0, .ref 393)]) (st' := [.int 8, .ref 393]) (h' := g6) (Ps := []) rfl trivial ?_
  refine zc_newI (m := 8) (n := 397) c6.1 bdMo_init_33 (by decide : zSh 397 = (1, 0, 8)) rfl (by omega) (by omega) (c6.2.2.2.2.1 397 (Nat.le_refl _) (by omega)) ?_
  refine zG_nmh (h := (g6.1, 397 + 1, g6.2.2)) (fun g7 e7 => ?_)
  have c7 := zCo_arr c6 (fun _ => zrv_1 (by decide : zSh 397 = (1, 0, 8))) (fun _ => zIv_1 (by decide : zSh 397 = (1, 0, 8))) (by omega)
  rw [← e7] at c7
  clear e7
  refine zs_putref (c := 10) (j := 5) (a := 393) (b := 397) (ty := .array .int) bdMo_init_35 (by decide +kernel) (by decide) (by show _ = _ + 4; omega) (by omega) ⟨by rw [c7.1]; omega, (by decide : zSh 393 = (0, 10, 0))⟩ rfl (by decide) (by decide +kernel) (fun _ => rfl) (fun _ => rfl) ?_
  refine zG_nmh (h := (g7.1, g7.2.1, zini g7.2.2 393 5)) (fun g8 e8 => ?_)
  have c8 := zCo_put (b := 393) (j := 5) c7 (Nat.le_refl _) (by omega)
  rw [← e8] at c8
  clear e8
  refine zG_run bkMo_init_38 (lv' := [(0, .ref 393)]) (st' := [.int 24, .ref 393]) (h' := g8) (Ps := []) rfl trivial ?_
  refine zc_newI (m := 24) (n := 398) c8.1 bdMo_init_41 (by decide : zSh 398 = (1, 0, 24)) rfl (by omega) (by omega) (c8.2.2.2.2.1 398 (Nat.le_refl _) (by omega)) ?_
  refine zG_nmh (h := (g8.1, 398 + 1, g8.2.2)) (fun g9 e9 => ?_)
  have c9 := zCo_arr c8 (fun _ => zrv_1 (by decide : zSh 398 = (1, 0, 24))) (fun _ => zIv_1 (by decide : zSh 398 = (1, 0, 24))) (by omega)
  rw [← e9] at c9
  clear e9
  refine zs_putref (c := 10) (j := 7) (a := 393) (b := 398) (ty := .array .int) bdMo_init_43 (by decide +kernel) (by decide) (by show _ = _ + 5; omega) (by omega) ⟨by rw [c9.1]; omega, (by decide : zSh 393 = (0, 10, 0))⟩ rfl (by decide) (by decide +kernel) (fun _ => rfl) (fun _ => rfl) ?_
  refine zG_nmh (h := (g9.1, g9.2.1, zini g9.2.2 393 7)) (fun g10 e10 => ?_)
  have c10 := zCo_put (b := 393) (j := 7) c9 (Nat.le_refl _) (by omega)
  rw [← e10] at c10
  clear e10
  refine zG_run bkMo_init_46 (lv' := [(0, .ref 393)]) (st' := [.int 1990, .ref 393]) (h' := g10) (Ps := []) rfl trivial ?_
  refine zc_newI (m := 1990) (n := 399) c10.1 bdMo_init_50 (by decide : zSh 399 = (1, 0, 1990)) rfl (by omega) (by omega) (c10.2.2.2.2.1 399 (Nat.le_refl _) (by omega)) ?_
  refine zG_nmh (h := (g10.1, 399 + 1, g10.2.2)) (fun g11 e11 => ?_)
  have c11 := zCo_arr c10 (fun _ => zrv_1 (by decide : zSh 399 = (1, 0, 1990))) (fun _ => zIv_1 (by decide : zSh 399 = (1, 0, 1990))) (by omega)
  rw [← e11] at c11
  clear e11
  refine zs_putref (c := 10) (j := 8) (a := 393) (b := 399) (ty := .array .int) bdMo_init_52 (by decide +kernel) (by decide) (by show _ = _ + 6; omega) (by omega) ⟨by rw [c11.1]; omega, (by decide : zSh 393 = (0, 10, 0))⟩ rfl (by decide) (by decide +kernel) (fun _ => rfl) (fun _ => rfl) ?_
  refine zG_nmh (h := (g11.1, g11.2.1, zini g11.2.2 393 8)) (fun g12 e12 => ?_)
  have c12 := zCo_put (b := 393) (j := 8) c11 (Nat.le_refl _) (by omega)
  rw [← e12] at c12
  clear e12
  refine zG_run bkMo_init_55 (lv' := [(0, .ref 393)]) (st' := [.int 2, .ref 393]) (h' := g12) (Ps := []) rfl trivial ?_
  refine zc_newZ (m := 2) (n := 400) c12.1 bdMo_init_57 (by decide : zSh 400 = (1, 2, 2)) rfl (by omega) (by omega) (c12.2.2.2.2.1 400 (Nat.le_refl _) (by omega)) ?_
  refine zG_nmh (h := (g12.1, 400 + 1, g12.2.2)) (fun g13 e13 => ?_)
  have c13 := zCo_arr c12 (fun _ => zrv_1 (by decide : zSh 400 = (1, 2, 2))) (fun _ => zIv_1 (by decide : zSh 400 = (1, 2, 2))) (by omega)
  rw [← e13] at c13
  clear e13
  refine zs_putref (c := 10) (j := 9) (a := 393) (b := 400) (ty := .array .boolean) bdMo_init_59 (by decide +kernel) (by decide) (by show _ = _ + 7; omega) (by omega) ⟨by rw [c13.1]; omega, (by decide : zSh 393 = (0, 10, 0))⟩ rfl (by decide) (by decide +kernel) (fun _ => rfl) (fun _ => rfl) ?_
  refine zG_nmh (h := (g13.1, g13.2.1, zini g13.2.2 393 9)) (fun g14 e14 => ?_)
  have c14 := zCo_put (b := 393) (j := 9) c13 (Nat.le_refl _) (by omega)
  rw [← e14] at c14
  clear e14
  refine zG_run bkMo_init_62 (lv' := [(0, .ref 393)]) (st' := [.int 400, .ref 393]) (h' := g14) (Ps := []) rfl trivial ?_
  refine zc_newB (m := 400) (n := 401) c14.1 bdMo_init_66 (by decide : zSh 401 = (1, 1, 400)) rfl (by omega) (by omega) (c14.2.2.2.2.1 401 (Nat.le_refl _) (by omega)) ?_
  refine zG_nmh (h := (g14.1, 401 + 1, g14.2.2)) (fun g15 e15 => ?_)
  have c15 := zCo_arr c14 (fun _ => zrv_1 (by decide : zSh 401 = (1, 1, 400))) (fun _ => zIv_1 (by decide : zSh 401 = (1, 1, 400))) (by omega)
  rw [← e15] at c15
  clear e15
  refine zs_putref (c := 10) (j := 10) (a := 393) (b := 401) (ty := .array .byte) bdMo_init_68 (by decide +kernel) (by decide) (by show _ = _ + 8; omega) (by omega) ⟨by rw [c15.1]; omega, (by decide : zSh 393 = (0, 10, 0))⟩ rfl (by decide) (by decide +kernel) (fun _ => rfl) (fun _ => rfl) ?_
  refine zG_nmh (h := (g15.1, g15.2.1, zini g15.2.2 393 10)) (fun g16 e16 => ?_)
  have c16 := zCo_put (b := 393) (j := 10) c15 (Nat.le_refl _) (by omega)
  rw [← e16] at c16
  clear e16
  refine zG_run bkMo_init_71 (lv' := [(0, .ref 393)]) (st' := []) (h' := (zup g16.1 393 12 (-1), g16.2)) (Ps := [zOb g16 393 10]) rfl (zA ⟨by rw [c16.1]; omega, (by decide : zSh 393 = (0, 10, 0))⟩ trivial) ?_
  refine zG_nmh (h := (zup g16.1 393 12 (-1), g16.2)) (fun g17 e17 => ?_)
  have c17 := zCo_w (q' := fun _ _ => False) (zCo_int (b := 393) (j := 12) (x := (-1)) c16 (Nat.le_refl _) (by omega) (by rw [zIv, (by decide : zSh 393 = (0, 10, 0))]; rfl) (by omega)) (fun _ _ _ _ k => k) (fun c j k => k.2 ⟨k.1.1, zIv_m (f := 12) (by decide : zSh 393 = (0, 10, 0)) (by decide) k.1.2⟩)
  rw [← e17] at c17
  clear e17
  refine zG_run bkMo_init_76 (lv' := [(0, .ref 393)]) (st' := [.int 16, .ref 393]) (h' := g17) (Ps := []) rfl trivial ?_
  refine zc_newZ (m := 16) (n := 402) c17.1 bdMo_init_79 (by decide : zSh 402 = (1, 2, 16)) rfl (by omega) (by omega) (c17.2.2.2.2.1 402 (Nat.le_refl _) (by omega)) ?_
  refine zG_nmh (h := (g17.1, 402 + 1, g17.2.2)) (fun g18 e18 => ?_)
  have c18 := zCo_arr c17 (fun _ => zrv_1 (by decide : zSh 402 = (1, 2, 16))) (fun _ => zIv_1 (by decide : zSh 402 = (1, 2, 16))) (by omega)
  rw [← e18] at c18
  clear e18
  refine zs_putref (c := 10) (j := 13) (a := 393) (b := 402) (ty := .array .boolean) bdMo_init_81 (by decide +kernel) (by decide) (by show _ = _ + 9; omega) (by omega) ⟨by rw [c18.1]; omega, (by decide : zSh 393 = (0, 10, 0))⟩ rfl (by decide) (by decide +kernel) (fun _ => rfl) (fun _ => rfl) ?_
  refine zG_nmh (h := (g18.1, g18.2.1, zini g18.2.2 393 13)) (fun g19 e19 => ?_)
  have c19 := zCo_put (b := 393) (j := 13) c18 (Nat.le_refl _) (by omega)
  rw [← e19] at c19
  clear e19
  refine zG_run bkMo_init_84 (lv' := [(0, .ref 393)]) (st' := [.int 12, .ref 393]) (h' := g19) (Ps := []) rfl trivial ?_
  refine zc_newZ (m := 12) (n := 403) c19.1 bdMo_init_87 (by decide : zSh 403 = (1, 2, 12)) rfl (by omega) (by omega) (c19.2.2.2.2.1 403 (Nat.le_refl _) (by omega)) ?_
  refine zG_nmh (h := (g19.1, 403 + 1, g19.2.2)) (fun g20 e20 => ?_)
  have c20 := zCo_arr c19 (fun _ => zrv_1 (by decide : zSh 403 = (1, 2, 12))) (fun _ => zIv_1 (by decide : zSh 403 = (1, 2, 12))) (by omega)
  rw [← e20] at c20
  clear e20
  refine zs_putref (c := 10) (j := 14) (a := 393) (b := 403) (ty := .array .boolean) bdMo_init_89 (by decide +kernel) (by decide) (by show _ = _ + 10; omega) (by omega) ⟨by rw [c20.1]; omega, (by decide : zSh 393 = (0, 10, 0))⟩ rfl (by decide) (by decide +kernel) (fun _ => rfl) (fun _ => rfl) ?_
  refine zG_nmh (h := (g20.1, g20.2.1, zini g20.2.2 393 14)) (fun g21 e21 => ?_)
  have c21 := zCo_put (b := 393) (j := 14) c20 (Nat.le_refl _) (by omega)
  rw [← e21] at c21
  clear e21
  refine zG_run bkMo_init_92 (lv' := [(0, .ref 393)]) (st' := [.int 800, .ref 393]) (h' := g21) (Ps := []) rfl trivial ?_
  refine zc_newI (m := 800) (n := 404) c21.1 bdMo_init_96 (by decide : zSh 404 = (1, 0, 800)) rfl (by omega) (by omega) (c21.2.2.2.2.1 404 (Nat.le_refl _) (by omega)) ?_
  refine zG_nmh (h := (g21.1, 404 + 1, g21.2.2)) (fun g22 e22 => ?_)
  have c22 := zCo_arr c21 (fun _ => zrv_1 (by decide : zSh 404 = (1, 0, 800))) (fun _ => zIv_1 (by decide : zSh 404 = (1, 0, 800))) (by omega)
  rw [← e22] at c22
  clear e22
  refine zs_putref (c := 10) (j := 15) (a := 393) (b := 404) (ty := .array .int) bdMo_init_98 (by decide +kernel) (by decide) (by show _ = _ + 11; omega) (by omega) ⟨by rw [c22.1]; omega, (by decide : zSh 393 = (0, 10, 0))⟩ rfl (by decide) (by decide +kernel) (fun _ => rfl) (fun _ => rfl) ?_
  refine zG_nmh (h := (g22.1, g22.2.1, zini g22.2.2 393 15)) (fun g23 e23 => ?_)
  have c23 := zCo_put (b := 393) (j := 15) c22 (Nat.le_refl _) (by omega)
  rw [← e23] at c23
  clear e23
  refine zG_run bkMo_init_101 (lv' := [(0, .ref 393)]) (st' := [.int 800, .ref 393]) (h' := g23) (Ps := []) rfl trivial ?_
  refine zc_newI (m := 800) (n := 405) c23.1 bdMo_init_105 (by decide : zSh 405 = (1, 0, 800)) rfl (by omega) (by omega) (c23.2.2.2.2.1 405 (Nat.le_refl _) (by omega)) ?_
  refine zG_nmh (h := (g23.1, 405 + 1, g23.2.2)) (fun g24 e24 => ?_)
  have c24 := zCo_arr c23 (fun _ => zrv_1 (by decide : zSh 405 = (1, 0, 800))) (fun _ => zIv_1 (by decide : zSh 405 = (1, 0, 800))) (by omega)
  rw [← e24] at c24
  clear e24
  refine zs_putref (c := 10) (j := 22) (a := 393) (b := 405) (ty := .array .int) bdMo_init_107 (by decide +kernel) (by decide) (by show _ = _ + 12; omega) (by omega) ⟨by rw [c24.1]; omega, (by decide : zSh 393 = (0, 10, 0))⟩ rfl (by decide) (by decide +kernel) (fun _ => rfl) (fun _ => rfl) ?_
  refine zG_nmh (h := (g24.1, g24.2.1, zini g24.2.2 393 22)) (fun g25 e25 => ?_)
  have c25 := zCo_put (b := 393) (j := 22) c24 (Nat.le_refl _) (by omega)
  rw [← e25] at c25
  clear e25
  refine zG_run bkMo_init_110 (lv' := [(0, .ref 393)]) (st' := [.int 8, .ref 393]) (h' := g25) (Ps := []) rfl trivial ?_
  refine zc_newI (m := 8) (n := 406) c25.1 bdMo_init_113 (by decide : zSh 406 = (1, 0, 8)) rfl (by omega) (by omega) (c25.2.2.2.2.1 406 (Nat.le_refl _) (by omega)) ?_
  refine zG_nmh (h := (g25.1, 406 + 1, g25.2.2)) (fun g26 e26 => ?_)
  have c26 := zCo_arr c25 (fun _ => zrv_1 (by decide : zSh 406 = (1, 0, 8))) (fun _ => zIv_1 (by decide : zSh 406 = (1, 0, 8))) (by omega)
  rw [← e26] at c26
  clear e26
  refine zs_putref (c := 10) (j := 23) (a := 393) (b := 406) (ty := .array .int) bdMo_init_115 (by decide +kernel) (by decide) (by show _ = _ + 13; omega) (by omega) ⟨by rw [c26.1]; omega, (by decide : zSh 393 = (0, 10, 0))⟩ rfl (by decide) (by decide +kernel) (fun _ => rfl) (fun _ => rfl) ?_
  refine zG_nmh (h := (g26.1, g26.2.1, zini g26.2.2 393 23)) (fun g27 e27 => ?_)
  have c27 := zCo_put (b := 393) (j := 23) c26 (Nat.le_refl _) (by omega)
  rw [← e27] at c27
  clear e27
  refine zG_run bkMo_init_118 (lv' := [(0, .ref 393)]) (st' := [.int 8, .ref 393]) (h' := g27) (Ps := []) rfl trivial ?_
  refine zc_newI (m := 8) (n := 407) c27.1 bdMo_init_121 (by decide : zSh 407 = (1, 0, 8)) rfl (by omega) (by omega) (c27.2.2.2.2.1 407 (Nat.le_refl _) (by omega)) ?_
  refine zG_nmh (h := (g27.1, 407 + 1, g27.2.2)) (fun g28 e28 => ?_)
  have c28 := zCo_arr c27 (fun _ => zrv_1 (by decide : zSh 407 = (1, 0, 8))) (fun _ => zIv_1 (by decide : zSh 407 = (1, 0, 8))) (by omega)
  rw [← e28] at c28
  clear e28
  refine zs_putref (c := 10) (j := 24) (a := 393) (b := 407) (ty := .array .int) bdMo_init_123 (by decide +kernel) (by decide) (by show _ = _ + 14; omega) (by omega) ⟨by rw [c28.1]; omega, (by decide : zSh 393 = (0, 10, 0))⟩ rfl (by decide) (by decide +kernel) (fun _ => rfl) (fun _ => rfl) ?_
  refine zG_nmh (h := (g28.1, g28.2.1, zini g28.2.2 393 24)) (fun g29 e29 => ?_)
  have c29 := zCo_put (b := 393) (j := 24) c28 (Nat.le_refl _) (by omega)
  rw [← e29] at c29
  clear e29
  refine zG_run bkMo_init_126 (lv' := [(0, .ref 393)]) (st' := [.int 10000, .ref 393]) (h' := g29) (Ps := []) rfl trivial ?_
  refine zc_newB (m := 10000) (n := 408) c29.1 bdMo_init_130 (by decide : zSh 408 = (1, 1, 10000)) rfl (by omega) (by omega) (c29.2.2.2.2.1 408 (Nat.le_refl _) (by omega)) ?_
  refine zG_nmh (h := (g29.1, 408 + 1, g29.2.2)) (fun g30 e30 => ?_)
  have c30 := zCo_arr c29 (fun _ => zrv_1 (by decide : zSh 408 = (1, 1, 10000))) (fun _ => zIv_1 (by decide : zSh 408 = (1, 1, 10000))) (by omega)
  rw [← e30] at c30
  clear e30
  refine zs_putref (c := 10) (j := 26) (a := 393) (b := 408) (ty := .array .byte) bdMo_init_132 (by decide +kernel) (by decide) (by show _ = _ + 15; omega) (by omega) ⟨by rw [c30.1]; omega, (by decide : zSh 393 = (0, 10, 0))⟩ rfl (by decide) (by decide +kernel) (fun _ => rfl) (fun _ => rfl) ?_
  refine zG_nmh (h := (g30.1, g30.2.1, zini g30.2.2 393 26)) (fun g31 e31 => ?_)
  have c31 := zCo_put (b := 393) (j := 26) c30 (Nat.le_refl _) (by omega)
  rw [← e31] at c31
  clear e31
  refine zG_run bkMo_init_135 (lv' := [(0, .ref 393)]) (st' := [.int 201, .ref 393]) (h' := g31) (Ps := []) rfl trivial ?_
  refine zc_newI (m := 201) (n := 409) c31.1 bdMo_init_139 (by decide : zSh 409 = (1, 0, 201)) rfl (by omega) (by omega) (c31.2.2.2.2.1 409 (Nat.le_refl _) (by omega)) ?_
  refine zG_nmh (h := (g31.1, 409 + 1, g31.2.2)) (fun g32 e32 => ?_)
  have c32 := zCo_arr c31 (fun _ => zrv_1 (by decide : zSh 409 = (1, 0, 201))) (fun _ => zIv_1 (by decide : zSh 409 = (1, 0, 201))) (by omega)
  rw [← e32] at c32
  clear e32
  refine zs_putref (c := 10) (j := 28) (a := 393) (b := 409) (ty := .array .int) bdMo_init_141 (by decide +kernel) (by decide) (by show _ = _ + 16; omega) (by omega) ⟨by rw [c32.1]; omega, (by decide : zSh 393 = (0, 10, 0))⟩ rfl (by decide) (by decide +kernel) (fun _ => rfl) (fun _ => rfl) ?_
  refine zG_nmh (h := (g32.1, g32.2.1, zini g32.2.2 393 28)) (fun g33 e33 => ?_)
  have c33 := zCo_put (b := 393) (j := 28) c32 (Nat.le_refl _) (by omega)
  rw [← e33] at c33
  clear e33
  refine zG_run bkMo_init_144 (lv' := [(0, .ref 393)]) (st' := [.int 200, .ref 393]) (h' := g33) (Ps := []) rfl trivial ?_
  refine zc_newI (m := 200) (n := 410) c33.1 bdMo_init_148 (by decide : zSh 410 = (1, 0, 200)) rfl (by omega) (by omega) (c33.2.2.2.2.1 410 (Nat.le_refl _) (by omega)) ?_
  refine zG_nmh (h := (g33.1, 410 + 1, g33.2.2)) (fun g34 e34 => ?_)
  have c34 := zCo_arr c33 (fun _ => zrv_1 (by decide : zSh 410 = (1, 0, 200))) (fun _ => zIv_1 (by decide : zSh 410 = (1, 0, 200))) (by omega)
  rw [← e34] at c34
  clear e34
  refine zs_putref (c := 10) (j := 30) (a := 393) (b := 410) (ty := .array .int) bdMo_init_150 (by decide +kernel) (by decide) (by show _ = _ + 17; omega) (by omega) ⟨by rw [c34.1]; omega, (by decide : zSh 393 = (0, 10, 0))⟩ rfl (by decide) (by decide +kernel) (fun _ => rfl) (fun _ => rfl) ?_
  refine zG_nmh (h := (g34.1, g34.2.1, zini g34.2.2 393 30)) (fun g35 e35 => ?_)
  have c35 := zCo_put (b := 393) (j := 30) c34 (Nat.le_refl _) (by omega)
  rw [← e35] at c35
  clear e35
  refine zb_vret (h' := g35) (Ps := []) bkMo_init_153 bdMo_init_153 rfl rfl trivial c35.1 ?_
  refine hq _ _ ⟨rfl, zCo_end c35 (fun c j hc hz hp => ?_) (fun _ _ k => k)⟩
  try dsimp only at hp
  by_cases hca : c = 393
  · subst hca
    have hj := zrvc10 (by decide : zSh 393 = (0, 10, 0)) hz
    simp only [List.mem_cons, List.not_mem_nil, or_false] at hj
    clear hz; omega
  clear hz; omega
theorem cMo_init  {h : zHp} (hn : h.2.1 = 394)  (hf : zFA h 393) : zG mMo_init (411) (fun rr h' => rr = none ∧ zMd 393 (411) h h') 0 [(0, .ref 393)] [] h := lMo_init hn hf (fun _ _ q => q)

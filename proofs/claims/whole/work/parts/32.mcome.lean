/-! the reference: letters come and go: printed by wip/whole/p32.py -/
def iRs (H : zSig → Int32 → Int32 → Int32) (sg sg1 : zSig) (k : Int32) : Prop := (∀ c j, c ≠ 395 → sg1 c j = sg c j) ∧ (∀ j, (j < 803 ∨ 947 ≤ j) → sg1 395 j = sg 395 j) ∧ ∀ s f, 0 ≤ s → s < 16 → 0 ≤ f → f < 9 → sg1 395 (803 + 9 * s + f) = if s < k then H sg s f else sg 395 (803 + 9 * s + f)
def hlocs (H : zSig → Int32 → Int32 → Int32) : Prop := ∀ sg sg' s, (∀ c j, c ≠ 395 → sg c j = sg' c j) → (∀ f, 0 ≤ f → f < 9 → sg 395 (803 + 9 * s + f) = sg' 395 (803 + 9 * s + f)) → ∀ f, 0 ≤ f → f < 9 → H sg s f = H sg' s f
theorem iRs_0 {H : zSig → Int32 → Int32 → Int32} {sg : zSig} : iRs H sg sg 0 := ⟨fun _ _ _ => rfl, fun _ _ => rfl, fun s f h0 _ _ _ => by rw [if_neg (by lia)]⟩
theorem blks_inj {s f s2 f2 : Int32} (h0 : 0 ≤ s) (h1 : s < 16) (h2 : 0 ≤ f) (h3 : f < 9) (g0 : 0 ≤ s2) (g1 : s2 < 16) (g2 : 0 ≤ f2) (g3 : f2 < 9) (h : 803 + 9 * s + f = 803 + 9 * s2 + f2) : s = s2 := by
  have := congrArg Int32.toInt h
  lia
theorem iRs_s {H : zSig → Int32 → Int32 → Int32} {sg sg1 sg2 : zSig} {k : Int32} (hl : hlocs H) (h : iRs H sg sg1 k) (k0 : 0 ≤ k) (k1 : k < 16) (e1 : ∀ c j, c ≠ 395 → sg2 c j = sg1 c j) (e2 : ∀ j, (∀ f, 0 ≤ f → f < 9 → j ≠ 803 + 9 * k + f) → sg2 395 j = sg1 395 j) (e3 : ∀ f, 0 ≤ f → f < 9 → sg2 395 (803 + 9 * k + f) = H sg1 k f) : iRs H sg sg2 (k + 1) := by
  refine ⟨fun c j hc => (e1 c j hc).trans (h.1 c j hc), fun j hj => (e2 j (fun f f0 f1 q => by lia)).trans (h.2.1 j hj), fun s f s0 s1 f0 f1 => ?_⟩
  by_cases hs : s = k
  · subst hs
    rw [if_pos (by lia), e3 f f0 f1]
    exact hl sg1 sg s (fun c j hc => h.1 c j hc) (fun f f0 f1 => by rw [h.2.2 s f s0 s1 f0 f1, if_neg (by lia)]) f f0 f1
  · rw [e2 _ (fun g g0 g1 q => hs (blks_inj s0 s1 f0 f1 k0 k1 g0 g1 q)), h.2.2 s f s0 s1 f0 f1]
    by_cases hlt : s < k
    · rw [if_pos hlt, if_pos (by lia)]
    · rw [if_neg hlt, if_neg (by lia)]
theorem sp_rng {s f : Int32} (s0 : 0 ≤ s) (s1 : s < 16) (f0 : 0 ≤ f) (f1 : f < 9) : 803 ≤ 803 + 9 * s + f ∧ 803 + 9 * s + f < 947 := by lia
theorem an_rng {s f : Int32} (s0 : 0 ≤ s) (s1 : s < 12) (f0 : 0 ≤ f) (f1 : f < 4) : 947 ≤ 947 + 4 * s + f ∧ 947 + 4 * s + f < 995 := by lia
def iRa (H : zSig → Int32 → Int32 → Int32) (sg sg1 : zSig) (k : Int32) : Prop := (∀ c j, c ≠ 395 → sg1 c j = sg c j) ∧ (∀ j, (j < 947 ∨ 995 ≤ j) → sg1 395 j = sg 395 j) ∧ ∀ s f, 0 ≤ s → s < 12 → 0 ≤ f → f < 4 → sg1 395 (947 + 4 * s + f) = if s < k then H sg s f else sg 395 (947 + 4 * s + f)
def hloca (H : zSig → Int32 → Int32 → Int32) : Prop := ∀ sg sg' s, (∀ c j, c ≠ 395 → sg c j = sg' c j) → (∀ f, 0 ≤ f → f < 4 → sg 395 (947 + 4 * s + f) = sg' 395 (947 + 4 * s + f)) → ∀ f, 0 ≤ f → f < 4 → H sg s f = H sg' s f
theorem iRa_0 {H : zSig → Int32 → Int32 → Int32} {sg : zSig} : iRa H sg sg 0 := ⟨fun _ _ _ => rfl, fun _ _ => rfl, fun s f h0 _ _ _ => by rw [if_neg (by lia)]⟩
theorem blka_inj {s f s2 f2 : Int32} (h0 : 0 ≤ s) (h1 : s < 12) (h2 : 0 ≤ f) (h3 : f < 4) (g0 : 0 ≤ s2) (g1 : s2 < 12) (g2 : 0 ≤ f2) (g3 : f2 < 4) (h : 947 + 4 * s + f = 947 + 4 * s2 + f2) : s = s2 := by
  have := congrArg Int32.toInt h
  lia
theorem iRa_s {H : zSig → Int32 → Int32 → Int32} {sg sg1 sg2 : zSig} {k : Int32} (hl : hloca H) (h : iRa H sg sg1 k) (k0 : 0 ≤ k) (k1 : k < 12) (e1 : ∀ c j, c ≠ 395 → sg2 c j = sg1 c j) (e2 : ∀ j, (∀ f, 0 ≤ f → f < 4 → j ≠ 947 + 4 * k + f) → sg2 395 j = sg1 395 j) (e3 : ∀ f, 0 ≤ f → f < 4 → sg2 395 (947 + 4 * k + f) = H sg1 k f) : iRa H sg sg2 (k + 1) := by
  refine ⟨fun c j hc => (e1 c j hc).trans (h.1 c j hc), fun j hj => (e2 j (fun f f0 f1 q => by lia)).trans (h.2.1 j hj), fun s f s0 s1 f0 f1 => ?_⟩
  by_cases hs : s = k
  · subst hs
    rw [if_pos (by lia), e3 f f0 f1]
    exact hl sg1 sg s (fun c j hc => h.1 c j hc) (fun f f0 f1 => by rw [h.2.2 s f s0 s1 f0 f1, if_neg (by lia)]) f f0 f1
  · rw [e2 _ (fun g g0 g1 q => hs (blka_inj s0 s1 f0 f1 k0 k1 g0 g1 q)), h.2.2 s f s0 s1 f0 f1]
    by_cases hlt : s < k
    · rw [if_pos hlt, if_pos (by lia)]
    · rw [if_neg hlt, if_neg (by lia)]
def mLv (sg : zSig) (ot s : Int32) : Bool := decide (sg 395 (803 + 9 * s) = 1 ∧ (ot = 0 ∨ sg 402 s = 0))
def mLa (sg : zSig) (ot s : Int32) : Bool := decide (sg 395 (947 + 4 * s) = 1 ∧ (ot = 0 ∨ sg 403 s = 0))
def mCs (p m ot : Int32) (sg : zSig) (s f : Int32) : Int32 := if mLv sg ot s = true then (if f = 1 then pOn (sg 395 (803 + 9 * s + 1)) (sg 395 (803 + 9 * s + 8) &&& 1) p m else if f = 2 then pOn (sg 395 (803 + 9 * s + 2)) (sg 395 (803 + 9 * s + 8) >>> (1 &&& 31)) p m else sg 395 (803 + 9 * s + f)) else sg 395 (803 + 9 * s + f)
def mCa (p m ot : Int32) (sg : zSig) (s f : Int32) : Int32 := if mLa sg ot s = true ∧ f = 1 then pOn (sg 395 (947 + 4 * s + 1)) (sg 395 (947 + 4 * s + 2)) p m else sg 395 (947 + 4 * s + f)
def mGs (p q ot : Int32) (sg : zSig) (s f : Int32) : Int32 := if mLv sg ot s = true then (if f = 1 then pBk (sg 395 (803 + 9 * s + 1)) p q else if f = 2 then pBk (sg 395 (803 + 9 * s + 2)) p q else if f = 0 then (if pBk (sg 395 (803 + 9 * s + 1)) p q < pBk (sg 395 (803 + 9 * s + 2)) p q then 1 else 0) else sg 395 (803 + 9 * s + f)) else sg 395 (803 + 9 * s + f)
def mGa (p q ot : Int32) (sg : zSig) (s f : Int32) : Int32 := if mLa sg ot s = true then (if f = 1 then pBk (sg 395 (947 + 4 * s + 1)) p q else if f = 3 then sg 395 (947 + 4 * s + 3) + (if p < sg 395 (947 + 4 * s + 1) ∧ sg 395 (947 + 4 * s + 1) < q then 1 else 0) else sg 395 (947 + 4 * s + f)) else sg 395 (947 + 4 * s + f)
theorem z0a (x : Int32) : x = x + 0 := by grind
theorem mLv_c {sg sg' : zSig} {ot s : Int32} (h : ∀ c j, c ≠ 395 → sg c j = sg' c j) (hf : ∀ f, 0 ≤ f → f < 9 → sg 395 (803 + 9 * s + f) = sg' 395 (803 + 9 * s + f)) : mLv sg ot s = mLv sg' ot s := by
  unfold mLv
  rw [z0a (803 + 9 * s), hf 0 (by decide) (by decide), h 402 s (by decide)]
theorem mLa_c {sg sg' : zSig} {ot s : Int32} (h : ∀ c j, c ≠ 395 → sg c j = sg' c j) (hf : ∀ f, 0 ≤ f → f < 4 → sg 395 (947 + 4 * s + f) = sg' 395 (947 + 4 * s + f)) : mLa sg ot s = mLa sg' ot s := by
  unfold mLa
  rw [z0a (947 + 4 * s), hf 0 (by decide) (by decide), h 403 s (by decide)]
theorem loc_mCs (p m ot : Int32) : hlocs (mCs p m ot) := fun sg sg' s h hf f f0 f1 => by
  unfold mCs; rw [mLv_c h hf, hf 1 (by decide) (by decide), hf 2 (by decide) (by decide), hf 8 (by decide) (by decide), hf f f0 f1]
theorem loc_mGs (p q ot : Int32) : hlocs (mGs p q ot) := fun sg sg' s h hf f f0 f1 => by
  unfold mGs; rw [mLv_c h hf, hf 1 (by decide) (by decide), hf 2 (by decide) (by decide), hf f f0 f1]
theorem loc_mCa (p m ot : Int32) : hloca (mCa p m ot) := fun sg sg' s h hf f f0 f1 => by
  unfold mCa; rw [mLa_c h hf, hf 1 (by decide) (by decide), hf 2 (by decide) (by decide), hf f f0 f1]
theorem loc_mGa (p q ot : Int32) : hloca (mGa p q ot) := fun sg sg' s h hf f f0 f1 => by
  unfold mGa; rw [mLa_c h hf, hf 1 (by decide) (by decide), hf 3 (by decide) (by decide), hf f f0 f1]
theorem zup_o {sg : zSig} {a : Nat} {x f g v : Int32} (h : g ≠ f) : zup sg a (x + f) v a (x + g) = sg a (x + g) := zup_i (fun q => h ((zadd_l x g f).mp q))
theorem zup_o0 {sg : zSig} {a : Nat} {x g v : Int32} (h : g ≠ 0) : zup sg a x v a (x + g) = sg a (x + g) := zup_i (fun q => h ((zadd_0' x g).mp q))
theorem up_sc {s : zSig} {A f x1 x2 : Int32} : (zup (zup s 395 (A + 1) x1) 395 (A + 2) x2) 395 (A + f) = if f = 1 then x1 else if f = 2 then x2 else s 395 (A + f) := by
  rw [zup_e]
  by_cases h2 : f = 2
  · rw [if_pos ⟨rfl, by rw [h2]⟩, if_neg (by rw [h2]; decide), if_pos h2]
  · rw [if_neg (fun q => h2 ((zadd_l A f 2).mp q.2))]
    rw [zup_e]
    by_cases h1 : f = 1
    · rw [if_pos ⟨rfl, by rw [h1]⟩, if_pos h1]
    · rw [if_neg (fun q => h1 ((zadd_l A f 1).mp q.2))]
      rw [if_neg h1, if_neg h2]
theorem up_ac {s : zSig} {A f x1 : Int32} : (zup s 395 (A + 1) x1) 395 (A + f) = if f = 1 then x1 else s 395 (A + f) := by
  rw [zup_e]
  by_cases h1 : f = 1
  · rw [if_pos ⟨rfl, by rw [h1]⟩, if_pos h1]
  · rw [if_neg (fun q => h1 ((zadd_l A f 1).mp q.2))]
    rw [if_neg h1]
theorem up_sg {s : zSig} {A f x1 x2 x0 : Int32} : (zup (zup (zup s 395 (A + 1) x1) 395 (A + 2) x2) 395 (A) x0) 395 (A + f) = if f = 1 then x1 else if f = 2 then x2 else if f = 0 then x0 else s 395 (A + f) := by
  rw [zup_e]
  by_cases h0 : f = 0
  · rw [if_pos ⟨rfl, by rw [h0]; grind⟩, if_neg (by rw [h0]; decide), if_neg (by rw [h0]; decide), if_pos h0]
  · rw [if_neg (fun q => h0 ((zadd_0' A f).mp q.2))]
    rw [zup_e]
    by_cases h2 : f = 2
    · rw [if_pos ⟨rfl, by rw [h2]⟩, if_neg (by rw [h2]; decide), if_pos h2]
    · rw [if_neg (fun q => h2 ((zadd_l A f 2).mp q.2))]
      rw [zup_e]
      by_cases h1 : f = 1
      · rw [if_pos ⟨rfl, by rw [h1]⟩, if_pos h1]
      · rw [if_neg (fun q => h1 ((zadd_l A f 1).mp q.2))]
        rw [if_neg h1, if_neg h2, if_neg h0]
theorem up_ag {s : zSig} {A f x3 x1 : Int32} : (zup (zup s 395 (A + 3) x3) 395 (A + 1) x1) 395 (A + f) = if f = 1 then x1 else if f = 3 then x3 else s 395 (A + f) := by
  rw [zup_e]
  by_cases h1 : f = 1
  · rw [if_pos ⟨rfl, by rw [h1]⟩, if_pos h1]
  · rw [if_neg (fun q => h1 ((zadd_l A f 1).mp q.2))]
    rw [zup_e]
    by_cases h3 : f = 3
    · rw [if_pos ⟨rfl, by rw [h3]⟩, if_neg (by rw [h3]; decide), if_pos h3]
    · rw [if_neg (fun q => h3 ((zadd_l A f 3).mp q.2))]
      rw [if_neg h1, if_neg h3]
theorem mk_shift {S S1 : Int32 → Int32} {P M N k : Int32} (P0 : 0 ≤ P) (M0 : 0 ≤ M) (M1 : M ≤ 800) (N0 : 0 ≤ N) (N1 : N + M ≤ 800) (N2 : N ≤ 800) (k2 : P ≤ k) (k1 : k < N) (kz : ∀ j, S1 j = if 3 + k + M < j ∧ j < 3 + N + M then S (j - M) else S j) (j : Int32) : (if j = 3 + k + M then S1 (3 + k) else S1 j) = if 3 + (k - 1) + M < j ∧ j < 3 + N + M then S (j - M) else S j := by
  have e1 := kz (3 + k)
  rw [if_neg (by lia)] at e1
  rw [e1, kz j]
  clear e1 kz
  by_cases hj : j = 3 + k + M
  · rw [if_pos hj, if_pos ⟨by lia, by lia⟩, show j - M = 3 + k by rw [hj]; grind]
  · rw [if_neg hj]
    by_cases hk : 3 + k + M < j ∧ j < 3 + N + M
    · rw [if_pos hk, if_pos (by lia)]
    · rw [if_neg hk, if_neg (by lia)]
theorem tk_shift {S S1 : Int32 → Int32} {P D N k : Int32} (P0 : 0 ≤ P) (D0 : 0 ≤ D) (D1 : D ≤ 800) (N2 : N ≤ 800) (k2 : P + D ≤ k) (P1 : P ≤ 800) (k1 : k < N) (kz : ∀ j, S1 j = if 3 + P ≤ j ∧ j < 3 + k - D then S (j + D) else S j) (j : Int32) (D2 : 0 < D) : (if j = 3 + k - D then S1 (3 + k) else S1 j) = if 3 + P ≤ j ∧ j < 3 + (k + 1) - D then S (j + D) else S j := by
  have e1 := kz (3 + k)
  rw [if_neg (by lia)] at e1
  rw [e1, kz j]
  clear e1 kz
  by_cases hj : j = 3 + k - D
  · rw [if_pos hj, if_pos ⟨by lia, by lia⟩, show j + D = 3 + k by rw [hj]; grind]
  · rw [if_neg hj]
    by_cases hk : 3 + P ≤ j ∧ j < 3 + k - D
    · rw [if_pos hk, if_pos (by lia)]
    · rw [if_neg hk, if_neg (by lia)]
def mMk (sg sg' : zSig) (p m ot : Int32) : Prop := (∀ c j, c ≠ 395 → sg' c j = sg c j) ∧ sg' 395 0 = sg 395 0 + m ∧ sg' 395 1 = sg 395 1 ∧ sg' 395 2 = sg 395 2 ∧ (∀ j, 3 ≤ j → j < 803 → sg' 395 j = if 3 + 4 * p + 4 * m ≤ j ∧ j < 3 + 4 * sg 395 0 + 4 * m then sg 395 (j - 4 * m) else sg 395 j) ∧ (∀ s f, 0 ≤ s → s < sg 395 1 → 0 ≤ f → f < 9 → sg' 395 (803 + 9 * s + f) = mCs p m ot sg s f) ∧ ∀ s f, 0 ≤ s → s < sg 395 2 → 0 ≤ f → f < 4 → sg' 395 (947 + 4 * s + f) = mCa p m ot sg s f
def mTk (sg sg' : zSig) (p q ot : Int32) : Prop := (∀ c j, c ≠ 395 → sg' c j = sg c j) ∧ sg' 395 0 = sg 395 0 - (q - p) ∧ sg' 395 1 = sg 395 1 ∧ sg' 395 2 = sg 395 2 ∧ (∀ j, 3 ≤ j → j < 3 + 4 * (sg 395 0 - (q - p)) → sg' 395 j = if j < 3 + 4 * p then sg 395 j else sg 395 (j + 4 * (q - p))) ∧ (∀ s f, 0 ≤ s → s < sg 395 1 → 0 ≤ f → f < 9 → sg' 395 (803 + 9 * s + f) = mGs p q ot sg s f) ∧ ∀ s f, 0 ≤ s → s < sg 395 2 → 0 ≤ f → f < 4 → sg' 395 (947 + 4 * s + f) = mGa p q ot sg s f
theorem bkMo_makeRoom_0 : zBk mMo_makeRoom 0 [(0, 0, 0, 0, 4), (1, 0, 1, 0, 0), (5, 10, 3, 2, 3), (0, 0, 0, 0, 0), (7, 0, 0, 0, 0), (4, 2, 0, 0, 0), (0, 0, 0, 0, 1), (4, 1, 0, 0, 0), (2, 4, 0, 0, 0)] = some 12 := by decide +kernel
theorem bkMo_makeRoom_12 : zBk mMo_makeRoom 12 [(1, 4, 0, 0, 0), (0, 0, 0, 0, 4), (1, 1, 0, 0, 0), (4, 2, 0, 0, 0)] = some 17 := by decide +kernel
theorem bkMo_makeRoom_48 : zBk mMo_makeRoom 48 [(1, 0, 1, 0, 0), (5, 10, 3, 2, 3), (0, 0, 0, 0, 0), (19, 0, 0, 0, 0), (7, 0, 0, 0, 0), (1, 2, 0, 0, 0), (4, 0, 0, 0, 0), (8, 0, 0, 0, 0)] = some 58 := by decide +kernel
theorem bkMo_makeRoom_58 : zBk mMo_makeRoom 58 [(0, 0, 0, 0, 0), (2, 4, 0, 0, 0)] = some 61 := by decide +kernel
theorem bkMo_makeRoom_61 : zBk mMo_makeRoom 61 [(1, 4, 0, 0, 0), (1, 0, 1, 0, 0), (5, 10, 3, 2, 3), (0, 0, 0, 0, 1), (7, 0, 0, 0, 0)] = some 69 := by decide +kernel
theorem bkMo_makeRoom_180 : zBk mMo_makeRoom 180 [(0, 0, 0, 0, 0), (2, 4, 0, 0, 0)] = some 183 := by decide +kernel
theorem bkMo_makeRoom_183 : zBk mMo_makeRoom 183 [(1, 4, 0, 0, 0), (1, 0, 1, 0, 0), (5, 10, 3, 2, 3), (0, 0, 0, 0, 2), (7, 0, 0, 0, 0)] = some 191 := by decide +kernel
theorem bkMo_makeRoom_264 : zBk mMo_makeRoom 264 [] = some 264 := by decide +kernel
theorem bkMo_makeRoom_194 : zBk mMo_makeRoom 194 [(1, 4, 0, 0, 0)] = some 196 := by decide +kernel
theorem bkMo_makeRoom_199 : zBk mMo_makeRoom 199 [(2, 5, 0, 0, 0), (1, 0, 1, 0, 0), (5, 10, 3, 2, 3), (1, 5, 0, 0, 0), (7, 0, 0, 0, 0), (0, 0, 0, 0, 1)] = some 209 := by decide +kernel
theorem bkMo_makeRoom_258 : zBk mMo_makeRoom 258 [(3, 4, 0, 0, 1), (22, 183, 0, 0, 0)] = some 183 := by decide +kernel
theorem bkMo_makeRoom_212 : zBk mMo_makeRoom 212 [(1, 3, 0, 0, 0)] = some 213 := by decide +kernel
theorem bkMo_makeRoom_226 : zBk mMo_makeRoom 226 [(1, 0, 1, 0, 0), (5, 10, 3, 2, 3), (1, 5, 0, 0, 0), (0, 0, 0, 0, 1), (4, 0, 0, 0, 0), (1, 0, 1, 0, 0), (5, 10, 3, 2, 3), (1, 5, 0, 0, 0), (0, 0, 0, 0, 1), (4, 0, 0, 0, 0), (7, 0, 0, 0, 0), (1, 0, 1, 0, 0), (5, 10, 3, 2, 3), (1, 5, 0, 0, 0), (0, 0, 0, 0, 2), (4, 0, 0, 0, 0), (7, 0, 0, 0, 0), (1, 1, 0, 0, 0), (1, 2, 0, 0, 0)] = some 254 := by decide +kernel
theorem bkMo_makeRoom_257 : zBk mMo_makeRoom 257 [(8, 0, 0, 0, 0)] = some 258 := by decide +kernel
theorem bkMo_makeRoom_216 : zBk mMo_makeRoom 216 [(1, 0, 1, 0, 0), (5, 10, 14, 10, 14), (1, 4, 0, 0, 0), (7, 2, 0, 0, 0)] = some 223 := by decide +kernel
theorem bkMo_makeRoom_72 : zBk mMo_makeRoom 72 [(1, 4, 0, 0, 0)] = some 74 := by decide +kernel
theorem bkMo_makeRoom_77 : zBk mMo_makeRoom 77 [(2, 5, 0, 0, 0), (1, 0, 1, 0, 0), (5, 10, 3, 2, 3), (1, 5, 0, 0, 0), (7, 0, 0, 0, 0), (0, 0, 0, 0, 1)] = some 87 := by decide +kernel
theorem bkMo_makeRoom_174 : zBk mMo_makeRoom 174 [(3, 4, 0, 0, 1), (22, 61, 0, 0, 0)] = some 61 := by decide +kernel
theorem bkMo_makeRoom_90 : zBk mMo_makeRoom 90 [(1, 3, 0, 0, 0)] = some 91 := by decide +kernel
theorem bkMo_makeRoom_104 : zBk mMo_makeRoom 104 [(1, 0, 1, 0, 0), (5, 10, 3, 2, 3), (1, 5, 0, 0, 0), (0, 0, 0, 0, 1), (4, 0, 0, 0, 0), (1, 0, 1, 0, 0), (5, 10, 3, 2, 3), (1, 5, 0, 0, 0), (0, 0, 0, 0, 1), (4, 0, 0, 0, 0), (7, 0, 0, 0, 0), (1, 0, 1, 0, 0), (5, 10, 3, 2, 3), (1, 5, 0, 0, 0), (0, 0, 0, 0, 8), (4, 0, 0, 0, 0), (7, 0, 0, 0, 0), (0, 0, 0, 0, 1), (4, 3, 0, 0, 0), (1, 1, 0, 0, 0), (1, 2, 0, 0, 0)] = some 135 := by decide +kernel
theorem bkMo_makeRoom_138 : zBk mMo_makeRoom 138 [(8, 0, 0, 0, 0), (1, 0, 1, 0, 0), (5, 10, 3, 2, 3), (1, 5, 0, 0, 0), (0, 0, 0, 0, 2), (4, 0, 0, 0, 0), (1, 0, 1, 0, 0), (5, 10, 3, 2, 3), (1, 5, 0, 0, 0), (0, 0, 0, 0, 2), (4, 0, 0, 0, 0), (7, 0, 0, 0, 0), (1, 0, 1, 0, 0), (5, 10, 3, 2, 3), (1, 5, 0, 0, 0), (0, 0, 0, 0, 8), (4, 0, 0, 0, 0), (7, 0, 0, 0, 0), (0, 0, 0, 0, 1), (4, 7, 0, 0, 0), (1, 1, 0, 0, 0), (1, 2, 0, 0, 0)] = some 170 := by decide +kernel
theorem bkMo_makeRoom_173 : zBk mMo_makeRoom 173 [(8, 0, 0, 0, 0)] = some 174 := by decide +kernel
theorem bkMo_makeRoom_94 : zBk mMo_makeRoom 94 [(1, 0, 1, 0, 0), (5, 10, 13, 9, 13), (1, 4, 0, 0, 0), (7, 2, 0, 0, 0)] = some 101 := by decide +kernel
theorem bkMo_makeRoom_20 : zBk mMo_makeRoom 20 [(1, 0, 1, 0, 0), (5, 10, 3, 2, 3), (0, 0, 0, 0, 3), (1, 4, 0, 0, 0), (4, 0, 0, 0, 0), (0, 0, 0, 0, 4), (1, 2, 0, 0, 0), (4, 2, 0, 0, 0), (4, 0, 0, 0, 0), (1, 0, 1, 0, 0), (5, 10, 3, 2, 3), (0, 0, 0, 0, 3), (1, 4, 0, 0, 0), (4, 0, 0, 0, 0), (7, 0, 0, 0, 0), (8, 0, 0, 0, 0), (3, 4, 0, 0, -1), (22, 12, 0, 0, 0)] = some 12 := by decide +kernel
theorem bdMo_makeRoom_17 : decode mMo_makeRoom.2.2.1 17 = .ok (.if_icmp .lt 31, 3) := by decide +kernel
theorem bdMo_makeRoom_69 : decode mMo_makeRoom.2.2.1 69 = .ok (.if_icmp .ge 111, 3) := by decide +kernel
theorem bdMo_makeRoom_74 : decode mMo_makeRoom.2.2.1 74 = .ok (.invokestatic 91, 3) := by decide +kernel
theorem bdMo_makeRoom_87 : decode mMo_makeRoom.2.2.1 87 = .ok (.if_icmp .ne 87, 3) := by decide +kernel
theorem bdMo_makeRoom_91 : decode mMo_makeRoom.2.2.1 91 = .ok (.ifCond .eq 13, 3) := by decide +kernel
theorem bdMo_makeRoom_101 : decode mMo_makeRoom.2.2.1 101 = .ok (.ifCond .ne 73, 3) := by decide +kernel
theorem bdMo_makeRoom_135 : decode mMo_makeRoom.2.2.1 135 = .ok (.invokestatic 105, 3) := by decide +kernel
theorem bdMo_makeRoom_170 : decode mMo_makeRoom.2.2.1 170 = .ok (.invokestatic 105, 3) := by decide +kernel
theorem bdMo_makeRoom_191 : decode mMo_makeRoom.2.2.1 191 = .ok (.if_icmp .ge 73, 3) := by decide +kernel
theorem bdMo_makeRoom_196 : decode mMo_makeRoom.2.2.1 196 = .ok (.invokestatic 94, 3) := by decide +kernel
theorem bdMo_makeRoom_209 : decode mMo_makeRoom.2.2.1 209 = .ok (.if_icmp .ne 49, 3) := by decide +kernel
theorem bdMo_makeRoom_213 : decode mMo_makeRoom.2.2.1 213 = .ok (.ifCond .eq 13, 3) := by decide +kernel
theorem bdMo_makeRoom_223 : decode mMo_makeRoom.2.2.1 223 = .ok (.ifCond .ne 35, 3) := by decide +kernel
theorem bdMo_makeRoom_254 : decode mMo_makeRoom.2.2.1 254 = .ok (.invokestatic 105, 3) := by decide +kernel
theorem bdMo_makeRoom_264 : decode mMo_makeRoom.2.2.1 264 = .ok (.return_, 1) := by decide +kernel
set_option maxHeartbeats 4000000 in
theorem lMo_makeRoom {sg : zSig} {p m ot : Int32} (n0 : 0 ≤ sg 395 0) (g0 : 0 ≤ sg 395 1) (g1 : sg 395 1 ≤ 16) (a0 : 0 ≤ sg 395 2) (a1 : sg 395 2 ≤ 12) (p0 : 0 ≤ p) (p1 : p ≤ sg 395 0) (m0 : 0 ≤ m) (n1 : sg 395 0 + m ≤ 200) (m1 : m ≤ 200) (n2 : sg 395 0 ≤ 200) {Q : Option Value → zHp → Prop} (hq : ∀ rr h', (∃ sg', rr = none ∧ h' = zN sg' ∧ mMk sg sg' p m ot) → Q rr h') : zG mMo_makeRoom 411 Q 0 [(0, .ref 393), (1, .int p), (2, .int m), (3, .int ot)] [] (zN sg) := by
  refine zG_run bkMo_makeRoom_0 (lv' := [(4, .int ((4 * (sg 395 0)) - 1)), (0, .ref 393), (1, .int p), (2, .int m), (3, .int ot)]) (st' := []) (h' := zN sg) (Ps := [zOb (zN sg) 393 10 ∧ (zN sg).2.2 393 3 = true, zInL (zN sg) 395 0]) rfl (zA ⟨zob_393, rfl⟩ (zA (zinL_395 (i := 0) (by decide) (by decide)) trivial)) ?_
  refine zG_pick (lv' := [(0, .ref 393), (1, .int p), (2, .int m), (3, .int ot), (4, .int ((4 * (sg 395 0)) - 1))]) [1, 2, 3, 4, 0] rfl ?_
  refine zlp2 (fun (k : Int32) (sg1 : zSig) => zG mMo_makeRoom 411 Q 12 [(0, .ref 393), (1, .int p), (2, .int m), (3, .int ot), (4, .int k)] [] (zN sg1)) (fun (k : Int32) (sg1 : zSig) => (4 * p - 1 ≤ k) ∧ (k ≤ 4 * sg 395 0 - 1) ∧ (∀ c j, c ≠ 395 → sg1 c j = sg c j) ∧ (∀ j, sg1 395 j = if 3 + k + 4 * m < j ∧ j < 3 + 4 * sg 395 0 + 4 * m then sg 395 (j - 4 * m) else sg 395 j)) (fun (k : Int32) (sg1 : zSig) => zmu k (4 * p - 1)) ?_ ((4 * (sg 395 0)) - 1) sg ?_
  · intro k sg1 hI ih
    obtain ⟨k0, k1, kf, kz⟩ := hI
    refine zb_iclt (tgt := 48) bkMo_makeRoom_12 bdMo_makeRoom_17 (by decide) (lv' := [(0, .ref 393), (1, .int p), (2, .int m), (3, .int ot), (4, .int k)]) (st' := []) (h' := zN sg1) (x := k) (y := 4 * p) (Ps := []) rfl trivial (fun c1 => ?_) (fun c1 => ?_)
    · skip
      refine zG_run bkMo_makeRoom_48 (lv' := [(0, .ref 393), (1, .int p), (2, .int m), (3, .int ot), (4, .int k)]) (st' := []) (h' := zN (zup sg1 395 0 ((sg1 395 0) + m))) (Ps := [zOb (zN sg1) 393 10 ∧ (zN sg1).2.2 393 3 = true, zInL (zN sg1) 395 0, zIn (zN sg1) 395 0 0]) rfl (zA ⟨zob_393, rfl⟩ (zA (zinL_395 (i := 0) (by decide) (by decide)) (zA (zin_395 (i := 0) (by decide) (by decide)) trivial))) ?_
      refine zG_nm (sg := zup sg1 395 0 ((sg1 395 0) + m)) (fun sg2 e2 => ?_)
      have x0 : sg2 395 0 = sg 395 0 + m := by rw [e2, zup_s, kz 0, if_neg (by lia)]
      have x1 : sg2 395 1 = sg 395 1 := by rw [e2, zup_i (by decide), kz 1, if_neg (by lia)]
      have x2 : sg2 395 2 = sg 395 2 := by rw [e2, zup_i (by decide), kz 2, if_neg (by lia)]
      have xf : ∀ c j, c ≠ 395 → sg2 c j = sg c j := fun c j h => by rw [e2, zup_a h]; exact kf c j h
      have xz : ∀ j, 3 ≤ j → sg2 395 j = if 3 + 4 * p + 4 * m ≤ j ∧ j < 3 + 4 * sg 395 0 + 4 * m then sg 395 (j - 4 * m) else sg 395 j := by
        intro j h; rw [e2, zup_i (by lia), kz j]; have ek : k = 4 * p - 1 := by lia
        by_cases hc : 3 + 4 * p + 4 * m ≤ j ∧ j < 3 + 4 * sg 395 0 + 4 * m
        · rw [if_pos hc, if_pos (by lia)]
        · rw [if_neg hc, if_neg (by lia)]
      clear e2 kz kf
      refine zG_run bkMo_makeRoom_58 (lv' := [(4, .int 0), (0, .ref 393), (1, .int p), (2, .int m), (3, .int ot)]) (st' := []) (h' := zN sg2) (Ps := []) rfl trivial ?_
      refine zG_pick (lv' := [(0, .ref 393), (1, .int p), (2, .int m), (3, .int ot), (4, .int 0)]) [1, 2, 3, 4, 0] rfl ?_
      refine zlp2 (fun (k : Int32) (sg3 : zSig) => zG mMo_makeRoom 411 Q 61 [(0, .ref 393), (1, .int p), (2, .int m), (3, .int ot), (4, .int k)] [] (zN sg3)) (fun (k : Int32) (sg3 : zSig) => (0 ≤ k) ∧ (k ≤ sg 395 1) ∧ (iRs (mCs p m ot) sg2 sg3 k)) (fun (k : Int32) (sg3 : zSig) => zmu (sg 395 1) k) ?_ 0 sg2 ?_
      · intro k sg3 hm ihm
        obtain ⟨m0, m1, mi⟩ := hm
        have kg : sg3 395 1 = sg 395 1 := by rw [mi.2.1 1 (by decide)]; exact x1
        refine zb_icge (tgt := 180) bkMo_makeRoom_61 bdMo_makeRoom_69 (by decide) (lv' := [(0, .ref 393), (1, .int p), (2, .int m), (3, .int ot), (4, .int k)]) (st' := []) (h' := zN sg3) (x := k) (y := sg3 395 1) (Ps := [zOb (zN sg3) 393 10 ∧ (zN sg3).2.2 393 3 = true, zInL (zN sg3) 395 1]) rfl (zA ⟨zob_393, rfl⟩ (zA (zinL_395 (i := 1) (by decide) (by decide)) trivial)) (fun c2 => ?_) (fun c2 => ?_)
        · skip
          have mi3 := mi
          have e3 : k = sg 395 1 := by lia
          rw [e3] at mi3
          have y2 : sg3 395 2 = sg 395 2 := by rw [mi3.2.1 2 (by decide)]; exact x2
          refine zG_run bkMo_makeRoom_180 (lv' := [(4, .int 0), (0, .ref 393), (1, .int p), (2, .int m), (3, .int ot)]) (st' := []) (h' := zN sg3) (Ps := []) rfl trivial ?_
          refine zG_pick (lv' := [(0, .ref 393), (1, .int p), (2, .int m), (3, .int ot), (4, .int 0)]) [1, 2, 3, 4, 0] rfl ?_
          refine zlp2 (fun (k : Int32) (sg4 : zSig) => zG mMo_makeRoom 411 Q 183 [(0, .ref 393), (1, .int p), (2, .int m), (3, .int ot), (4, .int k)] [] (zN sg4)) (fun (k : Int32) (sg4 : zSig) => (0 ≤ k) ∧ (k ≤ sg 395 2) ∧ (iRa (mCa p m ot) sg3 sg4 k)) (fun (k : Int32) (sg4 : zSig) => zmu (sg 395 2) k) ?_ 0 sg3 ?_
          · intro k sg4 hm ihm
            obtain ⟨m0, m1, mi⟩ := hm
            have kg : sg4 395 2 = sg 395 2 := by rw [mi.2.1 2 (by decide)]; exact y2
            refine zb_icge (tgt := 264) bkMo_makeRoom_183 bdMo_makeRoom_191 (by decide) (lv' := [(0, .ref 393), (1, .int p), (2, .int m), (3, .int ot), (4, .int k)]) (st' := []) (h' := zN sg4) (x := k) (y := sg4 395 2) (Ps := [zOb (zN sg4) 393 10 ∧ (zN sg4).2.2 393 3 = true, zInL (zN sg4) 395 2]) rfl (zA ⟨zob_393, rfl⟩ (zA (zinL_395 (i := 2) (by decide) (by decide)) trivial)) (fun c3 => ?_) (fun c3 => ?_)
            · skip
              refine zb_vret bkMo_makeRoom_264 bdMo_makeRoom_264 rfl (h' := zN sg4) (Ps := []) rfl trivial rfl ?_
              refine hq _ _ ?_
              have xb : ∀ j, 803 ≤ j → sg2 395 j = sg 395 j := fun j h => by rw [xz j (by lia), if_neg (by lia)]
              have ek : k = sg 395 2 := by lia
              rw [ek] at mi
              refine ⟨sg4, rfl, rfl, fun c j hc => ?_, ?_, ?_, ?_, fun j j0 j1 => ?_, fun s f s0 s1 f0 f1 => ?_, fun s f s0 s1 f0 f1 => ?_⟩
              · rw [mi.1 c j hc, mi3.1 c j hc]; exact xf c j hc
              · rw [mi.2.1 0 (by decide), mi3.2.1 0 (by decide)]; exact x0
              · rw [mi.2.1 1 (by decide), mi3.2.1 1 (by decide)]; exact x1
              · rw [mi.2.1 2 (by decide), mi3.2.1 2 (by decide)]; exact x2
              · rw [mi.2.1 j (by lia), mi3.2.1 j (by lia)]; exact xz j j0
              · have s2 : s < 16 := by lia
                rw [mi.2.1 _ (Or.inl (sp_rng s0 s2 f0 f1).2), mi3.2.2 s f s0 s2 f0 f1, if_pos s1]; exact loc_mCs p m ot sg2 sg s (fun c j hc => xf c j hc) (fun f f0 f1 => xb _ (sp_rng s0 s2 f0 f1).1) f f0 f1
              · have s2 : s < 12 := by lia
                rw [mi.2.2 s f s0 s2 f0 f1, if_pos s1]; exact loc_mCa p m ot sg3 sg s (fun c j hc => by rw [mi3.1 c j hc]; exact xf c j hc) (fun f f0 f1 => by rw [mi3.2.1 _ (Or.inr (an_rng s0 s2 f0 f1).1)]; exact xb _ (Int32.le_trans (by decide) (an_rng s0 s2 f0 f1).1)) f f0 f1
            · skip
              refine zG_run bkMo_makeRoom_194 (lv' := [(0, .ref 393), (1, .int p), (2, .int m), (3, .int ot), (4, .int k)]) (st' := [.int k]) (h' := zN sg4) (Ps := []) rfl trivial ?_
              refine zG_calls (As := [.int k]) (rest := []) (N2 := 411) bdMo_makeRoom_196 okMo_anchorAt lk10_94 (And.intro (by decide) (by decide)) rfl rfl (Nat.le_of_ble_eq_true rfl) (Nat.le_of_ble_eq_true rfl) (Nat.le_refl 411) (Nat.le_refl 411) cMo_anchorAt ?_
              rintro rr h' ⟨rfl, rfl⟩ -
              refine zb_icne (tgt := 258) bkMo_makeRoom_199 bdMo_makeRoom_209 (by decide) (lv' := [(5, .int (947 + 4 * k)), (0, .ref 393), (1, .int p), (2, .int m), (3, .int ot), (4, .int k)]) (st' := []) (h' := zN sg4) (x := sg4 395 (947 + 4 * k)) (y := 1) (Ps := [zOb (zN sg4) 393 10 ∧ (zN sg4).2.2 393 3 = true, zInL (zN sg4) 395 (947 + 4 * k)]) rfl (zA ⟨zob_393, rfl⟩ (zA (zinL_395 (i := 947 + 4 * k) (by lia) (by lia)) trivial)) (fun c4 => ?_) (fun c4 => ?_)
              · skip
                refine zG_run bkMo_makeRoom_258 (lv' := [(4, .int (k + 1)), (5, .int (947 + 4 * k)), (0, .ref 393), (1, .int p), (2, .int m), (3, .int ot)]) (st' := []) (h' := zN sg4) (Ps := []) rfl trivial ?_
                refine zG_pick (lv' := [(0, .ref 393), (1, .int p), (2, .int m), (3, .int ot), (4, .int (k + 1))]) [2, 3, 4, 5, 0] rfl ?_
                refine ihm (k + 1) sg4 ?_ ?_
                · refine ⟨?_, ?_, ?_⟩
                  · lia
                  · lia
                  · refine iRa_s (loc_mCa p m ot) mi m0 (by lia) (fun _ _ _ => rfl) (fun _ _ => rfl) (fun f f0 f1 => ?_)
                    have hl : mLa sg4 ot k = false := by unfold mLa; exact decide_eq_false (by lia)
                    unfold mCa; simp [hl]
                · exact zmu_up (by lia)
              · skip
                refine zb_ifeq (tgt := 226) bkMo_makeRoom_212 bdMo_makeRoom_213 (by decide) (lv' := [(5, .int (947 + 4 * k)), (0, .ref 393), (1, .int p), (2, .int m), (3, .int ot), (4, .int k)]) (st' := []) (h' := zN sg4) (x := ot) (Ps := []) rfl trivial (fun c5 => ?_) (fun c5 => ?_)
                · skip
                  refine zG_run bkMo_makeRoom_226 (lv' := [(5, .int (947 + 4 * k)), (0, .ref 393), (1, .int p), (2, .int m), (3, .int ot), (4, .int k)]) (st' := [.int m, .int p, .int (sg4 395 ((947 + 4 * k) + 2)), .int (sg4 395 ((947 + 4 * k) + 1)), .int ((947 + 4 * k) + 1), .ref 395]) (h' := zN sg4) (Ps := [zOb (zN sg4) 393 10 ∧ (zN sg4).2.2 393 3 = true, zOb (zN sg4) 393 10 ∧ (zN sg4).2.2 393 3 = true, zInL (zN sg4) 395 ((947 + 4 * k) + 1), zOb (zN sg4) 393 10 ∧ (zN sg4).2.2 393 3 = true, zInL (zN sg4) 395 ((947 + 4 * k) + 2)]) rfl (zA ⟨zob_393, rfl⟩ (zA ⟨zob_393, rfl⟩ (zA (zinL_395 (i := (947 + 4 * k) + 1) (by lia) (by lia)) (zA ⟨zob_393, rfl⟩ (zA (zinL_395 (i := (947 + 4 * k) + 2) (by lia) (by lia)) trivial))))) ?_
                  refine zG_calls (As := [.int (sg4 395 ((947 + 4 * k) + 1)), .int (sg4 395 ((947 + 4 * k) + 2)), .int p, .int m]) (rest := [.int ((947 + 4 * k) + 1), .ref 395]) (N2 := 411) bdMo_makeRoom_254 okMo_onward lk10_105 (And.intro (by decide) (by decide)) rfl rfl (Nat.le_of_ble_eq_true rfl) (Nat.le_of_ble_eq_true rfl) (Nat.le_refl 411) (Nat.le_refl 411) cMo_onward ?_
                  rintro rr h' ⟨rfl, rfl⟩ -
                  refine zG_run bkMo_makeRoom_257 (lv' := [(5, .int (947 + 4 * k)), (0, .ref 393), (1, .int p), (2, .int m), (3, .int ot), (4, .int k)]) (st' := []) (h' := zN (zup sg4 395 ((947 + 4 * k) + 1) (pOn (sg4 395 ((947 + 4 * k) + 1)) (sg4 395 ((947 + 4 * k) + 2)) p m))) (Ps := [zIn (zN sg4) 395 0 ((947 + 4 * k) + 1)]) rfl (zA (zin_395 (i := (947 + 4 * k) + 1) (by lia) (by lia)) trivial) ?_
                  have es : zup sg4 395 ((947 + 4 * k) + 1) (pOn (sg4 395 ((947 + 4 * k) + 1)) (sg4 395 ((947 + 4 * k) + 2)) p m) = zup sg4 395 (947 + 4 * k + 1) (pOn (sg4 395 (947 + 4 * k + 1)) (sg4 395 (947 + 4 * k + 2)) p m) := by rfl
                  refine zG_run bkMo_makeRoom_258 (lv' := [(4, .int (k + 1)), (5, .int (947 + 4 * k)), (0, .ref 393), (1, .int p), (2, .int m), (3, .int ot)]) (st' := []) (h' := zN (zup sg4 395 ((947 + 4 * k) + 1) (pOn (sg4 395 ((947 + 4 * k) + 1)) (sg4 395 ((947 + 4 * k) + 2)) p m))) (Ps := []) rfl trivial ?_
                  refine zG_pick (lv' := [(0, .ref 393), (1, .int p), (2, .int m), (3, .int ot), (4, .int (k + 1))]) [2, 3, 4, 5, 0] rfl ?_
                  refine ihm (k + 1) (zup sg4 395 ((947 + 4 * k) + 1) (pOn (sg4 395 ((947 + 4 * k) + 1)) (sg4 395 ((947 + 4 * k) + 2)) p m)) ?_ ?_
                  · refine ⟨?_, ?_, ?_⟩
                    · lia
                    · lia
                    · refine iRa_s (loc_mCa p m ot) mi m0 (by lia) (fun c j hc => ?_) (fun j hj => ?_) (fun f f0 f1 => ?_)
                      · rw [es]; rw [zup_a hc]
                      · rw [es]; rw [zup_i (fun q => hj 1 (by decide) (by decide) q)]
                      · have hl : mLa sg4 ot k = true := by unfold mLa; exact decide_eq_true (by lia)
                        rw [es, up_ac]; unfold mCa; simp only [hl, true_and]
                  · exact zmu_up (by lia)
                · skip
                  refine zb_ifne (tgt := 258) bkMo_makeRoom_216 bdMo_makeRoom_223 (by decide) (lv' := [(5, .int (947 + 4 * k)), (0, .ref 393), (1, .int p), (2, .int m), (3, .int ot), (4, .int k)]) (st' := []) (h' := zN sg4) (x := sg4 403 k) (Ps := [zOb (zN sg4) 393 10 ∧ (zN sg4).2.2 393 14 = true, zIn (zN sg4) 403 2 k]) rfl (zA ⟨zob_393, rfl⟩ (zA (zin_403 (i := k) (by lia) (by lia)) trivial)) (fun c6 => ?_) (fun c6 => ?_)
                  · skip
                    refine zG_run bkMo_makeRoom_258 (lv' := [(4, .int (k + 1)), (5, .int (947 + 4 * k)), (0, .ref 393), (1, .int p), (2, .int m), (3, .int ot)]) (st' := []) (h' := zN sg4) (Ps := []) rfl trivial ?_
                    refine zG_pick (lv' := [(0, .ref 393), (1, .int p), (2, .int m), (3, .int ot), (4, .int (k + 1))]) [2, 3, 4, 5, 0] rfl ?_
                    refine ihm (k + 1) sg4 ?_ ?_
                    · refine ⟨?_, ?_, ?_⟩
                      · lia
                      · lia
                      · refine iRa_s (loc_mCa p m ot) mi m0 (by lia) (fun _ _ _ => rfl) (fun _ _ => rfl) (fun f f0 f1 => ?_)
                        have hl : mLa sg4 ot k = false := by unfold mLa; exact decide_eq_false (by lia)
                        unfold mCa; simp [hl]
                    · exact zmu_up (by lia)
                  · skip
                    refine zG_run bkMo_makeRoom_226 (lv' := [(5, .int (947 + 4 * k)), (0, .ref 393), (1, .int p), (2, .int m), (3, .int ot), (4, .int k)]) (st' := [.int m, .int p, .int (sg4 395 ((947 + 4 * k) + 2)), .int (sg4 395 ((947 + 4 * k) + 1)), .int ((947 + 4 * k) + 1), .ref 395]) (h' := zN sg4) (Ps := [zOb (zN sg4) 393 10 ∧ (zN sg4).2.2 393 3 = true, zOb (zN sg4) 393 10 ∧ (zN sg4).2.2 393 3 = true, zInL (zN sg4) 395 ((947 + 4 * k) + 1), zOb (zN sg4) 393 10 ∧ (zN sg4).2.2 393 3 = true, zInL (zN sg4) 395 ((947 + 4 * k) + 2)]) rfl (zA ⟨zob_393, rfl⟩ (zA ⟨zob_393, rfl⟩ (zA (zinL_395 (i := (947 + 4 * k) + 1) (by lia) (by lia)) (zA ⟨zob_393, rfl⟩ (zA (zinL_395 (i := (947 + 4 * k) + 2) (by lia) (by lia)) trivial))))) ?_
                    refine zG_calls (As := [.int (sg4 395 ((947 + 4 * k) + 1)), .int (sg4 395 ((947 + 4 * k) + 2)), .int p, .int m]) (rest := [.int ((947 + 4 * k) + 1), .ref 395]) (N2 := 411) bdMo_makeRoom_254 okMo_onward lk10_105 (And.intro (by decide) (by decide)) rfl rfl (Nat.le_of_ble_eq_true rfl) (Nat.le_of_ble_eq_true rfl) (Nat.le_refl 411) (Nat.le_refl 411) cMo_onward ?_
                    rintro rr h' ⟨rfl, rfl⟩ -
                    refine zG_run bkMo_makeRoom_257 (lv' := [(5, .int (947 + 4 * k)), (0, .ref 393), (1, .int p), (2, .int m), (3, .int ot), (4, .int k)]) (st' := []) (h' := zN (zup sg4 395 ((947 + 4 * k) + 1) (pOn (sg4 395 ((947 + 4 * k) + 1)) (sg4 395 ((947 + 4 * k) + 2)) p m))) (Ps := [zIn (zN sg4) 395 0 ((947 + 4 * k) + 1)]) rfl (zA (zin_395 (i := (947 + 4 * k) + 1) (by lia) (by lia)) trivial) ?_
                    have es : zup sg4 395 ((947 + 4 * k) + 1) (pOn (sg4 395 ((947 + 4 * k) + 1)) (sg4 395 ((947 + 4 * k) + 2)) p m) = zup sg4 395 (947 + 4 * k + 1) (pOn (sg4 395 (947 + 4 * k + 1)) (sg4 395 (947 + 4 * k + 2)) p m) := by rfl
                    refine zG_run bkMo_makeRoom_258 (lv' := [(4, .int (k + 1)), (5, .int (947 + 4 * k)), (0, .ref 393), (1, .int p), (2, .int m), (3, .int ot)]) (st' := []) (h' := zN (zup sg4 395 ((947 + 4 * k) + 1) (pOn (sg4 395 ((947 + 4 * k) + 1)) (sg4 395 ((947 + 4 * k) + 2)) p m))) (Ps := []) rfl trivial ?_
                    refine zG_pick (lv' := [(0, .ref 393), (1, .int p), (2, .int m), (3, .int ot), (4, .int (k + 1))]) [2, 3, 4, 5, 0] rfl ?_
                    refine ihm (k + 1) (zup sg4 395 ((947 + 4 * k) + 1) (pOn (sg4 395 ((947 + 4 * k) + 1)) (sg4 395 ((947 + 4 * k) + 2)) p m)) ?_ ?_
                    · refine ⟨?_, ?_, ?_⟩
                      · lia
                      · lia
                      · refine iRa_s (loc_mCa p m ot) mi m0 (by lia) (fun c j hc => ?_) (fun j hj => ?_) (fun f f0 f1 => ?_)
                        · rw [es]; rw [zup_a hc]
                        · rw [es]; rw [zup_i (fun q => hj 1 (by decide) (by decide) q)]
                        · have hl : mLa sg4 ot k = true := by unfold mLa; exact decide_eq_true (by lia)
                          rw [es, up_ac]; unfold mCa; simp only [hl, true_and]
                    · exact zmu_up (by lia)
          · refine ⟨?_, ?_, ?_⟩
            · lia
            · lia
            · exact iRa_0
        · skip
          refine zG_run bkMo_makeRoom_72 (lv' := [(0, .ref 393), (1, .int p), (2, .int m), (3, .int ot), (4, .int k)]) (st' := [.int k]) (h' := zN sg3) (Ps := []) rfl trivial ?_
          refine zG_calls (As := [.int k]) (rest := []) (N2 := 411) bdMo_makeRoom_74 okMo_spanAt lk10_91 (And.intro (by decide) (by decide)) rfl rfl (Nat.le_of_ble_eq_true rfl) (Nat.le_of_ble_eq_true rfl) (Nat.le_refl 411) (Nat.le_refl 411) cMo_spanAt ?_
          rintro rr h' ⟨rfl, rfl⟩ -
          refine zb_icne (tgt := 174) bkMo_makeRoom_77 bdMo_makeRoom_87 (by decide) (lv' := [(5, .int (803 + 9 * k)), (0, .ref 393), (1, .int p), (2, .int m), (3, .int ot), (4, .int k)]) (st' := []) (h' := zN sg3) (x := sg3 395 (803 + 9 * k)) (y := 1) (Ps := [zOb (zN sg3) 393 10 ∧ (zN sg3).2.2 393 3 = true, zInL (zN sg3) 395 (803 + 9 * k)]) rfl (zA ⟨zob_393, rfl⟩ (zA (zinL_395 (i := 803 + 9 * k) (by lia) (by lia)) trivial)) (fun c7 => ?_) (fun c7 => ?_)
          · skip
            refine zG_run bkMo_makeRoom_174 (lv' := [(4, .int (k + 1)), (5, .int (803 + 9 * k)), (0, .ref 393), (1, .int p), (2, .int m), (3, .int ot)]) (st' := []) (h' := zN sg3) (Ps := []) rfl trivial ?_
            refine zG_pick (lv' := [(0, .ref 393), (1, .int p), (2, .int m), (3, .int ot), (4, .int (k + 1))]) [2, 3, 4, 5, 0] rfl ?_
            refine ihm (k + 1) sg3 ?_ ?_
            · refine ⟨?_, ?_, ?_⟩
              · lia
              · lia
              · refine iRs_s (loc_mCs p m ot) mi m0 (by lia) (fun _ _ _ => rfl) (fun _ _ => rfl) (fun f f0 f1 => ?_)
                have hl : mLv sg3 ot k = false := by unfold mLv; exact decide_eq_false (by lia)
                unfold mCs; simp [hl]
            · exact zmu_up (by lia)
          · skip
            refine zb_ifeq (tgt := 104) bkMo_makeRoom_90 bdMo_makeRoom_91 (by decide) (lv' := [(5, .int (803 + 9 * k)), (0, .ref 393), (1, .int p), (2, .int m), (3, .int ot), (4, .int k)]) (st' := []) (h' := zN sg3) (x := ot) (Ps := []) rfl trivial (fun c8 => ?_) (fun c8 => ?_)
            · skip
              refine zG_run bkMo_makeRoom_104 (lv' := [(5, .int (803 + 9 * k)), (0, .ref 393), (1, .int p), (2, .int m), (3, .int ot), (4, .int k)]) (st' := [.int m, .int p, .int ((sg3 395 ((803 + 9 * k) + 8)) &&& 1), .int (sg3 395 ((803 + 9 * k) + 1)), .int ((803 + 9 * k) + 1), .ref 395]) (h' := zN sg3) (Ps := [zOb (zN sg3) 393 10 ∧ (zN sg3).2.2 393 3 = true, zOb (zN sg3) 393 10 ∧ (zN sg3).2.2 393 3 = true, zInL (zN sg3) 395 ((803 + 9 * k) + 1), zOb (zN sg3) 393 10 ∧ (zN sg3).2.2 393 3 = true, zInL (zN sg3) 395 ((803 + 9 * k) + 8)]) rfl (zA ⟨zob_393, rfl⟩ (zA ⟨zob_393, rfl⟩ (zA (zinL_395 (i := (803 + 9 * k) + 1) (by lia) (by lia)) (zA ⟨zob_393, rfl⟩ (zA (zinL_395 (i := (803 + 9 * k) + 8) (by lia) (by lia)) trivial))))) ?_
              refine zG_calls (As := [.int (sg3 395 ((803 + 9 * k) + 1)), .int ((sg3 395 ((803 + 9 * k) + 8)) &&& 1), .int p, .int m]) (rest := [.int ((803 + 9 * k) + 1), .ref 395]) (N2 := 411) bdMo_makeRoom_135 okMo_onward lk10_105 (And.intro (by decide) (by decide)) rfl rfl (Nat.le_of_ble_eq_true rfl) (Nat.le_of_ble_eq_true rfl) (Nat.le_refl 411) (Nat.le_refl 411) cMo_onward ?_
              rintro rr h' ⟨rfl, rfl⟩ -
              refine zG_run bkMo_makeRoom_138 (lv' := [(5, .int (803 + 9 * k)), (0, .ref 393), (1, .int p), (2, .int m), (3, .int ot), (4, .int k)]) (st' := [.int m, .int p, .int (((zup sg3 395 ((803 + 9 * k) + 1) (pOn (sg3 395 ((803 + 9 * k) + 1)) ((sg3 395 ((803 + 9 * k) + 8)) &&& 1) p m)) 395 ((803 + 9 * k) + 8)) >>> (1 &&& 31)), .int ((zup sg3 395 ((803 + 9 * k) + 1) (pOn (sg3 395 ((803 + 9 * k) + 1)) ((sg3 395 ((803 + 9 * k) + 8)) &&& 1) p m)) 395 ((803 + 9 * k) + 2)), .int ((803 + 9 * k) + 2), .ref 395]) (h' := zN (zup sg3 395 ((803 + 9 * k) + 1) (pOn (sg3 395 ((803 + 9 * k) + 1)) ((sg3 395 ((803 + 9 * k) + 8)) &&& 1) p m))) (Ps := [zIn (zN sg3) 395 0 ((803 + 9 * k) + 1), zOb (zN (zup sg3 395 ((803 + 9 * k) + 1) (pOn (sg3 395 ((803 + 9 * k) + 1)) ((sg3 395 ((803 + 9 * k) + 8)) &&& 1) p m))) 393 10 ∧ (zN (zup sg3 395 ((803 + 9 * k) + 1) (pOn (sg3 395 ((803 + 9 * k) + 1)) ((sg3 395 ((803 + 9 * k) + 8)) &&& 1) p m))).2.2 393 3 = true, zOb (zN (zup sg3 395 ((803 + 9 * k) + 1) (pOn (sg3 395 ((803 + 9 * k) + 1)) ((sg3 395 ((803 + 9 * k) + 8)) &&& 1) p m))) 393 10 ∧ (zN (zup sg3 395 ((803 + 9 * k) + 1) (pOn (sg3 395 ((803 + 9 * k) + 1)) ((sg3 395 ((803 + 9 * k) + 8)) &&& 1) p m))).2.2 393 3 = true, zInL (zN (zup sg3 395 ((803 + 9 * k) + 1) (pOn (sg3 395 ((803 + 9 * k) + 1)) ((sg3 395 ((803 + 9 * k) + 8)) &&& 1) p m))) 395 ((803 + 9 * k) + 2), zOb (zN (zup sg3 395 ((803 + 9 * k) + 1) (pOn (sg3 395 ((803 + 9 * k) + 1)) ((sg3 395 ((803 + 9 * k) + 8)) &&& 1) p m))) 393 10 ∧ (zN (zup sg3 395 ((803 + 9 * k) + 1) (pOn (sg3 395 ((803 + 9 * k) + 1)) ((sg3 395 ((803 + 9 * k) + 8)) &&& 1) p m))).2.2 393 3 = true, zInL (zN (zup sg3 395 ((803 + 9 * k) + 1) (pOn (sg3 395 ((803 + 9 * k) + 1)) ((sg3 395 ((803 + 9 * k) + 8)) &&& 1) p m))) 395 ((803 + 9 * k) + 8)]) rfl (zA (zin_395 (i := (803 + 9 * k) + 1) (by lia) (by lia)) (zA ⟨zob_393, rfl⟩ (zA ⟨zob_393, rfl⟩ (zA (zinL_395 (i := (803 + 9 * k) + 2) (by lia) (by lia)) (zA ⟨zob_393, rfl⟩ (zA (zinL_395 (i := (803 + 9 * k) + 8) (by lia) (by lia)) trivial)))))) ?_
              refine zG_calls (As := [.int ((zup sg3 395 ((803 + 9 * k) + 1) (pOn (sg3 395 ((803 + 9 * k) + 1)) ((sg3 395 ((803 + 9 * k) + 8)) &&& 1) p m)) 395 ((803 + 9 * k) + 2)), .int (((zup sg3 395 ((803 + 9 * k) + 1) (pOn (sg3 395 ((803 + 9 * k) + 1)) ((sg3 395 ((803 + 9 * k) + 8)) &&& 1) p m)) 395 ((803 + 9 * k) + 8)) >>> (1 &&& 31)), .int p, .int m]) (rest := [.int ((803 + 9 * k) + 2), .ref 395]) (N2 := 411) bdMo_makeRoom_170 okMo_onward lk10_105 (And.intro (by decide) (by decide)) rfl rfl (Nat.le_of_ble_eq_true rfl) (Nat.le_of_ble_eq_true rfl) (Nat.le_refl 411) (Nat.le_refl 411) cMo_onward ?_
              rintro rr h' ⟨rfl, rfl⟩ -
              refine zG_run bkMo_makeRoom_173 (lv' := [(5, .int (803 + 9 * k)), (0, .ref 393), (1, .int p), (2, .int m), (3, .int ot), (4, .int k)]) (st' := []) (h' := zN (zup (zup sg3 395 ((803 + 9 * k) + 1) (pOn (sg3 395 ((803 + 9 * k) + 1)) ((sg3 395 ((803 + 9 * k) + 8)) &&& 1) p m)) 395 ((803 + 9 * k) + 2) (pOn ((zup sg3 395 ((803 + 9 * k) + 1) (pOn (sg3 395 ((803 + 9 * k) + 1)) ((sg3 395 ((803 + 9 * k) + 8)) &&& 1) p m)) 395 ((803 + 9 * k) + 2)) (((zup sg3 395 ((803 + 9 * k) + 1) (pOn (sg3 395 ((803 + 9 * k) + 1)) ((sg3 395 ((803 + 9 * k) + 8)) &&& 1) p m)) 395 ((803 + 9 * k) + 8)) >>> (1 &&& 31)) p m))) (Ps := [zIn (zN (zup sg3 395 ((803 + 9 * k) + 1) (pOn (sg3 395 ((803 + 9 * k) + 1)) ((sg3 395 ((803 + 9 * k) + 8)) &&& 1) p m))) 395 0 ((803 + 9 * k) + 2)]) rfl (zA (zin_395 (i := (803 + 9 * k) + 2) (by lia) (by lia)) trivial) ?_
              have es : zup (zup sg3 395 ((803 + 9 * k) + 1) (pOn (sg3 395 ((803 + 9 * k) + 1)) ((sg3 395 ((803 + 9 * k) + 8)) &&& 1) p m)) 395 ((803 + 9 * k) + 2) (pOn ((zup sg3 395 ((803 + 9 * k) + 1) (pOn (sg3 395 ((803 + 9 * k) + 1)) ((sg3 395 ((803 + 9 * k) + 8)) &&& 1) p m)) 395 ((803 + 9 * k) + 2)) (((zup sg3 395 ((803 + 9 * k) + 1) (pOn (sg3 395 ((803 + 9 * k) + 1)) ((sg3 395 ((803 + 9 * k) + 8)) &&& 1) p m)) 395 ((803 + 9 * k) + 8)) >>> (1 &&& 31)) p m) = zup (zup sg3 395 (803 + 9 * k + 1) (pOn (sg3 395 (803 + 9 * k + 1)) (sg3 395 (803 + 9 * k + 8) &&& 1) p m)) 395 (803 + 9 * k + 2) (pOn (sg3 395 (803 + 9 * k + 2)) (sg3 395 (803 + 9 * k + 8) >>> (1 &&& 31)) p m) := by rw [zup_o (by decide), zup_o (by decide)]
              refine zG_run bkMo_makeRoom_174 (lv' := [(4, .int (k + 1)), (5, .int (803 + 9 * k)), (0, .ref 393), (1, .int p), (2, .int m), (3, .int ot)]) (st' := []) (h' := zN (zup (zup sg3 395 ((803 + 9 * k) + 1) (pOn (sg3 395 ((803 + 9 * k) + 1)) ((sg3 395 ((803 + 9 * k) + 8)) &&& 1) p m)) 395 ((803 + 9 * k) + 2) (pOn ((zup sg3 395 ((803 + 9 * k) + 1) (pOn (sg3 395 ((803 + 9 * k) + 1)) ((sg3 395 ((803 + 9 * k) + 8)) &&& 1) p m)) 395 ((803 + 9 * k) + 2)) (((zup sg3 395 ((803 + 9 * k) + 1) (pOn (sg3 395 ((803 + 9 * k) + 1)) ((sg3 395 ((803 + 9 * k) + 8)) &&& 1) p m)) 395 ((803 + 9 * k) + 8)) >>> (1 &&& 31)) p m))) (Ps := []) rfl trivial ?_
              refine zG_pick (lv' := [(0, .ref 393), (1, .int p), (2, .int m), (3, .int ot), (4, .int (k + 1))]) [2, 3, 4, 5, 0] rfl ?_
              refine ihm (k + 1) (zup (zup sg3 395 ((803 + 9 * k) + 1) (pOn (sg3 395 ((803 + 9 * k) + 1)) ((sg3 395 ((803 + 9 * k) + 8)) &&& 1) p m)) 395 ((803 + 9 * k) + 2) (pOn ((zup sg3 395 ((803 + 9 * k) + 1) (pOn (sg3 395 ((803 + 9 * k) + 1)) ((sg3 395 ((803 + 9 * k) + 8)) &&& 1) p m)) 395 ((803 + 9 * k) + 2)) (((zup sg3 395 ((803 + 9 * k) + 1) (pOn (sg3 395 ((803 + 9 * k) + 1)) ((sg3 395 ((803 + 9 * k) + 8)) &&& 1) p m)) 395 ((803 + 9 * k) + 8)) >>> (1 &&& 31)) p m)) ?_ ?_
              · refine ⟨?_, ?_, ?_⟩
                · lia
                · lia
                · refine iRs_s (loc_mCs p m ot) mi m0 (by lia) (fun c j hc => ?_) (fun j hj => ?_) (fun f f0 f1 => ?_)
                  · rw [es]; rw [zup_a hc]; rw [zup_a hc]
                  · rw [es]; rw [zup_i (fun q => hj 2 (by decide) (by decide) q)]; rw [zup_i (fun q => hj 1 (by decide) (by decide) q)]
                  · have hl : mLv sg3 ot k = true := by unfold mLv; exact decide_eq_true (by lia)
                    rw [es, up_sc]; unfold mCs; rw [if_pos hl]
              · exact zmu_up (by lia)
            · skip
              refine zb_ifne (tgt := 174) bkMo_makeRoom_94 bdMo_makeRoom_101 (by decide) (lv' := [(5, .int (803 + 9 * k)), (0, .ref 393), (1, .int p), (2, .int m), (3, .int ot), (4, .int k)]) (st' := []) (h' := zN sg3) (x := sg3 402 k) (Ps := [zOb (zN sg3) 393 10 ∧ (zN sg3).2.2 393 13 = true, zIn (zN sg3) 402 2 k]) rfl (zA ⟨zob_393, rfl⟩ (zA (zin_402 (i := k) (by lia) (by lia)) trivial)) (fun c9 => ?_) (fun c9 => ?_)
              · skip
                refine zG_run bkMo_makeRoom_174 (lv' := [(4, .int (k + 1)), (5, .int (803 + 9 * k)), (0, .ref 393), (1, .int p), (2, .int m), (3, .int ot)]) (st' := []) (h' := zN sg3) (Ps := []) rfl trivial ?_
                refine zG_pick (lv' := [(0, .ref 393), (1, .int p), (2, .int m), (3, .int ot), (4, .int (k + 1))]) [2, 3, 4, 5, 0] rfl ?_
                refine ihm (k + 1) sg3 ?_ ?_
                · refine ⟨?_, ?_, ?_⟩
                  · lia
                  · lia
                  · refine iRs_s (loc_mCs p m ot) mi m0 (by lia) (fun _ _ _ => rfl) (fun _ _ => rfl) (fun f f0 f1 => ?_)
                    have hl : mLv sg3 ot k = false := by unfold mLv; exact decide_eq_false (by lia)
                    unfold mCs; simp [hl]
                · exact zmu_up (by lia)
              · skip
                refine zG_run bkMo_makeRoom_104 (lv' := [(5, .int (803 + 9 * k)), (0, .ref 393), (1, .int p), (2, .int m), (3, .int ot), (4, .int k)]) (st' := [.int m, .int p, .int ((sg3 395 ((803 + 9 * k) + 8)) &&& 1), .int (sg3 395 ((803 + 9 * k) + 1)), .int ((803 + 9 * k) + 1), .ref 395]) (h' := zN sg3) (Ps := [zOb (zN sg3) 393 10 ∧ (zN sg3).2.2 393 3 = true, zOb (zN sg3) 393 10 ∧ (zN sg3).2.2 393 3 = true, zInL (zN sg3) 395 ((803 + 9 * k) + 1), zOb (zN sg3) 393 10 ∧ (zN sg3).2.2 393 3 = true, zInL (zN sg3) 395 ((803 + 9 * k) + 8)]) rfl (zA ⟨zob_393, rfl⟩ (zA ⟨zob_393, rfl⟩ (zA (zinL_395 (i := (803 + 9 * k) + 1) (by lia) (by lia)) (zA ⟨zob_393, rfl⟩ (zA (zinL_395 (i := (803 + 9 * k) + 8) (by lia) (by lia)) trivial))))) ?_
                refine zG_calls (As := [.int (sg3 395 ((803 + 9 * k) + 1)), .int ((sg3 395 ((803 + 9 * k) + 8)) &&& 1), .int p, .int m]) (rest := [.int ((803 + 9 * k) + 1), .ref 395]) (N2 := 411) bdMo_makeRoom_135 okMo_onward lk10_105 (And.intro (by decide) (by decide)) rfl rfl (Nat.le_of_ble_eq_true rfl) (Nat.le_of_ble_eq_true rfl) (Nat.le_refl 411) (Nat.le_refl 411) cMo_onward ?_
                rintro rr h' ⟨rfl, rfl⟩ -
                refine zG_run bkMo_makeRoom_138 (lv' := [(5, .int (803 + 9 * k)), (0, .ref 393), (1, .int p), (2, .int m), (3, .int ot), (4, .int k)]) (st' := [.int m, .int p, .int (((zup sg3 395 ((803 + 9 * k) + 1) (pOn (sg3 395 ((803 + 9 * k) + 1)) ((sg3 395 ((803 + 9 * k) + 8)) &&& 1) p m)) 395 ((803 + 9 * k) + 8)) >>> (1 &&& 31)), .int ((zup sg3 395 ((803 + 9 * k) + 1) (pOn (sg3 395 ((803 + 9 * k) + 1)) ((sg3 395 ((803 + 9 * k) + 8)) &&& 1) p m)) 395 ((803 + 9 * k) + 2)), .int ((803 + 9 * k) + 2), .ref 395]) (h' := zN (zup sg3 395 ((803 + 9 * k) + 1) (pOn (sg3 395 ((803 + 9 * k) + 1)) ((sg3 395 ((803 + 9 * k) + 8)) &&& 1) p m))) (Ps := [zIn (zN sg3) 395 0 ((803 + 9 * k) + 1), zOb (zN (zup sg3 395 ((803 + 9 * k) + 1) (pOn (sg3 395 ((803 + 9 * k) + 1)) ((sg3 395 ((803 + 9 * k) + 8)) &&& 1) p m))) 393 10 ∧ (zN (zup sg3 395 ((803 + 9 * k) + 1) (pOn (sg3 395 ((803 + 9 * k) + 1)) ((sg3 395 ((803 + 9 * k) + 8)) &&& 1) p m))).2.2 393 3 = true, zOb (zN (zup sg3 395 ((803 + 9 * k) + 1) (pOn (sg3 395 ((803 + 9 * k) + 1)) ((sg3 395 ((803 + 9 * k) + 8)) &&& 1) p m))) 393 10 ∧ (zN (zup sg3 395 ((803 + 9 * k) + 1) (pOn (sg3 395 ((803 + 9 * k) + 1)) ((sg3 395 ((803 + 9 * k) + 8)) &&& 1) p m))).2.2 393 3 = true, zInL (zN (zup sg3 395 ((803 + 9 * k) + 1) (pOn (sg3 395 ((803 + 9 * k) + 1)) ((sg3 395 ((803 + 9 * k) + 8)) &&& 1) p m))) 395 ((803 + 9 * k) + 2), zOb (zN (zup sg3 395 ((803 + 9 * k) + 1) (pOn (sg3 395 ((803 + 9 * k) + 1)) ((sg3 395 ((803 + 9 * k) + 8)) &&& 1) p m))) 393 10 ∧ (zN (zup sg3 395 ((803 + 9 * k) + 1) (pOn (sg3 395 ((803 + 9 * k) + 1)) ((sg3 395 ((803 + 9 * k) + 8)) &&& 1) p m))).2.2 393 3 = true, zInL (zN (zup sg3 395 ((803 + 9 * k) + 1) (pOn (sg3 395 ((803 + 9 * k) + 1)) ((sg3 395 ((803 + 9 * k) + 8)) &&& 1) p m))) 395 ((803 + 9 * k) + 8)]) rfl (zA (zin_395 (i := (803 + 9 * k) + 1) (by lia) (by lia)) (zA ⟨zob_393, rfl⟩ (zA ⟨zob_393, rfl⟩ (zA (zinL_395 (i := (803 + 9 * k) + 2) (by lia) (by lia)) (zA ⟨zob_393, rfl⟩ (zA (zinL_395 (i := (803 + 9 * k) + 8) (by lia) (by lia)) trivial)))))) ?_
                refine zG_calls (As := [.int ((zup sg3 395 ((803 + 9 * k) + 1) (pOn (sg3 395 ((803 + 9 * k) + 1)) ((sg3 395 ((803 + 9 * k) + 8)) &&& 1) p m)) 395 ((803 + 9 * k) + 2)), .int (((zup sg3 395 ((803 + 9 * k) + 1) (pOn (sg3 395 ((803 + 9 * k) + 1)) ((sg3 395 ((803 + 9 * k) + 8)) &&& 1) p m)) 395 ((803 + 9 * k) + 8)) >>> (1 &&& 31)), .int p, .int m]) (rest := [.int ((803 + 9 * k) + 2), .ref 395]) (N2 := 411) bdMo_makeRoom_170 okMo_onward lk10_105 (And.intro (by decide) (by decide)) rfl rfl (Nat.le_of_ble_eq_true rfl) (Nat.le_of_ble_eq_true rfl) (Nat.le_refl 411) (Nat.le_refl 411) cMo_onward ?_
                rintro rr h' ⟨rfl, rfl⟩ -
                refine zG_run bkMo_makeRoom_173 (lv' := [(5, .int (803 + 9 * k)), (0, .ref 393), (1, .int p), (2, .int m), (3, .int ot), (4, .int k)]) (st' := []) (h' := zN (zup (zup sg3 395 ((803 + 9 * k) + 1) (pOn (sg3 395 ((803 + 9 * k) + 1)) ((sg3 395 ((803 + 9 * k) + 8)) &&& 1) p m)) 395 ((803 + 9 * k) + 2) (pOn ((zup sg3 395 ((803 + 9 * k) + 1) (pOn (sg3 395 ((803 + 9 * k) + 1)) ((sg3 395 ((803 + 9 * k) + 8)) &&& 1) p m)) 395 ((803 + 9 * k) + 2)) (((zup sg3 395 ((803 + 9 * k) + 1) (pOn (sg3 395 ((803 + 9 * k) + 1)) ((sg3 395 ((803 + 9 * k) + 8)) &&& 1) p m)) 395 ((803 + 9 * k) + 8)) >>> (1 &&& 31)) p m))) (Ps := [zIn (zN (zup sg3 395 ((803 + 9 * k) + 1) (pOn (sg3 395 ((803 + 9 * k) + 1)) ((sg3 395 ((803 + 9 * k) + 8)) &&& 1) p m))) 395 0 ((803 + 9 * k) + 2)]) rfl (zA (zin_395 (i := (803 + 9 * k) + 2) (by lia) (by lia)) trivial) ?_
                have es : zup (zup sg3 395 ((803 + 9 * k) + 1) (pOn (sg3 395 ((803 + 9 * k) + 1)) ((sg3 395 ((803 + 9 * k) + 8)) &&& 1) p m)) 395 ((803 + 9 * k) + 2) (pOn ((zup sg3 395 ((803 + 9 * k) + 1) (pOn (sg3 395 ((803 + 9 * k) + 1)) ((sg3 395 ((803 + 9 * k) + 8)) &&& 1) p m)) 395 ((803 + 9 * k) + 2)) (((zup sg3 395 ((803 + 9 * k) + 1) (pOn (sg3 395 ((803 + 9 * k) + 1)) ((sg3 395 ((803 + 9 * k) + 8)) &&& 1) p m)) 395 ((803 + 9 * k) + 8)) >>> (1 &&& 31)) p m) = zup (zup sg3 395 (803 + 9 * k + 1) (pOn (sg3 395 (803 + 9 * k + 1)) (sg3 395 (803 + 9 * k + 8) &&& 1) p m)) 395 (803 + 9 * k + 2) (pOn (sg3 395 (803 + 9 * k + 2)) (sg3 395 (803 + 9 * k + 8) >>> (1 &&& 31)) p m) := by rw [zup_o (by decide), zup_o (by decide)]
                refine zG_run bkMo_makeRoom_174 (lv' := [(4, .int (k + 1)), (5, .int (803 + 9 * k)), (0, .ref 393), (1, .int p), (2, .int m), (3, .int ot)]) (st' := []) (h' := zN (zup (zup sg3 395 ((803 + 9 * k) + 1) (pOn (sg3 395 ((803 + 9 * k) + 1)) ((sg3 395 ((803 + 9 * k) + 8)) &&& 1) p m)) 395 ((803 + 9 * k) + 2) (pOn ((zup sg3 395 ((803 + 9 * k) + 1) (pOn (sg3 395 ((803 + 9 * k) + 1)) ((sg3 395 ((803 + 9 * k) + 8)) &&& 1) p m)) 395 ((803 + 9 * k) + 2)) (((zup sg3 395 ((803 + 9 * k) + 1) (pOn (sg3 395 ((803 + 9 * k) + 1)) ((sg3 395 ((803 + 9 * k) + 8)) &&& 1) p m)) 395 ((803 + 9 * k) + 8)) >>> (1 &&& 31)) p m))) (Ps := []) rfl trivial ?_
                refine zG_pick (lv' := [(0, .ref 393), (1, .int p), (2, .int m), (3, .int ot), (4, .int (k + 1))]) [2, 3, 4, 5, 0] rfl ?_
                refine ihm (k + 1) (zup (zup sg3 395 ((803 + 9 * k) + 1) (pOn (sg3 395 ((803 + 9 * k) + 1)) ((sg3 395 ((803 + 9 * k) + 8)) &&& 1) p m)) 395 ((803 + 9 * k) + 2) (pOn ((zup sg3 395 ((803 + 9 * k) + 1) (pOn (sg3 395 ((803 + 9 * k) + 1)) ((sg3 395 ((803 + 9 * k) + 8)) &&& 1) p m)) 395 ((803 + 9 * k) + 2)) (((zup sg3 395 ((803 + 9 * k) + 1) (pOn (sg3 395 ((803 + 9 * k) + 1)) ((sg3 395 ((803 + 9 * k) + 8)) &&& 1) p m)) 395 ((803 + 9 * k) + 8)) >>> (1 &&& 31)) p m)) ?_ ?_
                · refine ⟨?_, ?_, ?_⟩
                  · lia
                  · lia
                  · refine iRs_s (loc_mCs p m ot) mi m0 (by lia) (fun c j hc => ?_) (fun j hj => ?_) (fun f f0 f1 => ?_)
                    · rw [es]; rw [zup_a hc]; rw [zup_a hc]
                    · rw [es]; rw [zup_i (fun q => hj 2 (by decide) (by decide) q)]; rw [zup_i (fun q => hj 1 (by decide) (by decide) q)]
                    · have hl : mLv sg3 ot k = true := by unfold mLv; exact decide_eq_true (by lia)
                      rw [es, up_sc]; unfold mCs; rw [if_pos hl]
                · exact zmu_up (by lia)
      · refine ⟨?_, ?_, ?_⟩
        · lia
        · lia
        · exact iRs_0
    · skip
      refine zG_run bkMo_makeRoom_20 (lv' := [(4, .int (k + (-1))), (0, .ref 393), (1, .int p), (2, .int m), (3, .int ot)]) (st' := []) (h' := zN (zup sg1 395 ((3 + k) + (4 * m)) (sg1 395 (3 + k)))) (Ps := [zOb (zN sg1) 393 10 ∧ (zN sg1).2.2 393 3 = true, zOb (zN sg1) 393 10 ∧ (zN sg1).2.2 393 3 = true, zInL (zN sg1) 395 (3 + k), zIn (zN sg1) 395 0 ((3 + k) + (4 * m))]) rfl (zA ⟨zob_393, rfl⟩ (zA ⟨zob_393, rfl⟩ (zA (zinL_395 (i := 3 + k) (by lia) (by lia)) (zA (zin_395 (i := (3 + k) + (4 * m)) (by lia) (by lia)) trivial)))) ?_
      refine zG_pick (lv' := [(0, .ref 393), (1, .int p), (2, .int m), (3, .int ot), (4, .int (k + (-1)))]) [1, 2, 3, 4, 0] rfl ?_
      refine ih (k + (-1)) (zup sg1 395 ((3 + k) + (4 * m)) (sg1 395 (3 + k))) ?_ ?_
      · refine ⟨?_, ?_, ?_, ?_⟩
        · lia
        · lia
        · intro c j h; rw [zup_a h]; exact kf c j h
        · intro j; rw [show k + -1 = k - 1 by grind, zup_e]; simp only [true_and]; exact mk_shift (P := 4 * p) (by lia) (by lia) (by lia) (by lia) (by lia) (by lia) (by lia) (by lia) kz j
      · rw [show k + -1 = k - 1 by grind]; exact zmu_down (by lia)
  · refine ⟨?_, ?_, ?_, ?_⟩
    · lia
    · lia
    · intro c j _; rfl
    · intro j; rw [if_neg (by lia)]
theorem cMo_makeRoom {sg : zSig} {p m ot : Int32} (n0 : 0 ≤ sg 395 0) (g0 : 0 ≤ sg 395 1) (g1 : sg 395 1 ≤ 16) (a0 : 0 ≤ sg 395 2) (a1 : sg 395 2 ≤ 12) (p0 : 0 ≤ p) (p1 : p ≤ sg 395 0) (m0 : 0 ≤ m) (n1 : sg 395 0 + m ≤ 200) (m1 : m ≤ 200) (n2 : sg 395 0 ≤ 200) : zG mMo_makeRoom 411 (fun rr h' => ∃ sg', rr = none ∧ h' = zN sg' ∧ mMk sg sg' p m ot) 0 [(0, .ref 393), (1, .int p), (2, .int m), (3, .int ot)] [] (zN sg) := lMo_makeRoom n0 g0 g1 a0 a1 p0 p1 m0 n1 m1 n2 (fun _ _ q => q)

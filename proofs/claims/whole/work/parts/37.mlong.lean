/-! numbers of a style, the longest run; the reference's questions of spans: printed by wip/whole/p37.py -/
theorem zind {P : Int32 → Prop} {a b : Int32} (h0 : P a) (hs : ∀ j, a ≤ j → j < b → P j → P (j + 1)) : ∀ j, a ≤ j → j ≤ b → P j := by
  intro j h1 h2
  refine zlp1 (fun j => P j) (fun j => a ≤ j ∧ j ≤ b) (fun j => zmu j a) (fun j hi ih => ?_) j ⟨h1, h2⟩
  by_cases hj : j = a
  · rw [hj]; exact h0
  · have := hs (j - 1) (by lia) (by lia) (ih (j - 1) ⟨by lia, by lia⟩ (zmu_down (by lia)))
    rw [show j - 1 + 1 = j by grind] at this
    exact this
def inR (t : z3) : Prop := (0 ≤ t.1 ∧ t.1 ≤ 15) ∧ (0 ≤ t.2.1 ∧ t.2.1 ≤ 7) ∧ 0 ≤ t.2.2 ∧ t.2.2 ≤ 9
theorem nIf {x : Int32} {n : Nat} (h0 : 0 ≤ x) (h1 : x < nI n) (hn : n < 2 ^ 31) : ∃ j : Fin n, x = nI j.val := by
  obtain ⟨j, hj, rfl⟩ := znn h0
  exact ⟨⟨j, (nI_ltI hj hn).mp h1⟩, rfl⟩
set_option maxRecDepth 20000 in
theorem bit_all : ∀ a b c : Fin 16, 0 ≤ (nI a.val ||| nI b.val) &&& (nI c.val ^^^ (-1)) ∧ (nI a.val ||| nI b.val) &&& (nI c.val ^^^ (-1)) ≤ 15 := by decide +kernel
theorem bit_rng {x y z : Int32} (x0 : 0 ≤ x) (x1 : x ≤ 15) (y0 : 0 ≤ y) (y1 : y ≤ 15) (z0 : 0 ≤ z) (z1 : z ≤ 15) : 0 ≤ (x ||| y) &&& (z ^^^ (-1)) ∧ (x ||| y) &&& (z ^^^ (-1)) ≤ 15 := by
  obtain ⟨a, rfl⟩ := nIf (n := 16) x0 (by have : nI 16 = 16 := rfl
                                          rw [this]; lia) (by decide)
  obtain ⟨b, rfl⟩ := nIf (n := 16) y0 (by have : nI 16 = 16 := rfl
                                          rw [this]; lia) (by decide)
  obtain ⟨c, rfl⟩ := nIf (n := 16) z0 (by have : nI 16 = 16 := rfl
                                          rw [this]; lia) (by decide)
  exact bit_all a b c
theorem mLk_R {on of co gr : Int32} {t : z3} (h : inR t) (h1 : 0 ≤ on ∧ on ≤ 15) (h2 : 0 ≤ of ∧ of ≤ 15) (h3 : -1 ≤ co ∧ co ≤ 7) : inR (mLk on of co gr t) := by
  refine ⟨bit_rng h.1.1 h.1.2 h1.1 h1.2 h2.1 h2.2, ?_, ?_⟩
  · show 0 ≤ (if co = -1 then t.2.1 else co) ∧ (if co = -1 then t.2.1 else co) ≤ 7
    have := h.2.1
    split
    · exact this
    · lia
  · show 0 ≤ fMax 0 (fMin 9 (t.2.2 + gr)) ∧ fMax 0 (fMin 9 (t.2.2 + gr)) ≤ 9
    unfold fMax fMin; split <;> split at * <;> lia
/-- what the numbers of the row keep to -/
def okP (sg : zSig) : Prop := (∀ i, 0 ≤ i → i < sg 395 0 → inR (mRw sg i)) ∧ ∀ k, 0 ≤ k → k < sg 395 1 → sg 395 (803 + 9 * k) = 1 → (0 ≤ sg 395 (803 + 9 * k + 4) ∧ sg 395 (803 + 9 * k + 4) ≤ 15) ∧ (0 ≤ sg 395 (803 + 9 * k + 5) ∧ sg 395 (803 + 9 * k + 5) ≤ 15) ∧ 0 ≤ sg 395 (803 + 9 * k + 6) ∧ sg 395 (803 + 9 * k + 6) ≤ 8
theorem mS_R {sg : zSig} {but i : Int32} (hp : okP sg) (g0 : 0 ≤ sg 395 1) (i0 : 0 ≤ i) (i1 : i < sg 395 0) : inR (mS sg but i) := by
  unfold mS
  refine zit_stable (P := inR) (i := 0) (Int32.le_refl 0) (by decide) (fun l t _ _ h => ?_) (hp.1 i i0 i1)
  unfold mS2
  refine zit_stable (P := inR) (i := 0) (Int32.le_refl 0) g0 (fun k t k0 k1 h => ?_) h
  unfold mS1
  split
  · rename_i hc
    have := hp.2 k k0 k1 hc.2.2.1
    exact mLk_R h this.1 this.2.1 (by lia)
  · exact h
theorem fOf_nn {a b c : Int32} (h : inR (a, b, c)) : 0 ≤ fOf a b c ∧ fOf a b c ≤ 1579 := by
  obtain ⟨⟨h1, h2⟩, ⟨h3, h4⟩, h5, h6⟩ := h
  simp only at h1 h2 h3 h4 h5 h6
  unfold fOf
  lia
theorem mSy_nn {sg : zSig} {but i : Int32} (hp : okP sg) (g0 : 0 ≤ sg 395 1) (i0 : 0 ≤ i) (i1 : i < sg 395 0) : mSy sg but i ≠ -1 := by
  have := fOf_nn (a := (mS sg but i).1) (b := (mS sg but i).2.1) (c := (mS sg but i).2.2) (mS_R hp g0 i0 i1)
  unfold mSy
  lia
theorem mSy_n0 {sg : zSig} (but : Int32) (hp : okP sg) (g0 : 0 ≤ sg 395 1) : 0 < sg 395 0 → mSy sg but 0 ≠ -1 := fun h => mSy_nn hp g0 (Int32.le_refl 0) h
theorem okP_row {sg sg' : zSig} (h : sg' 395 = sg 395) (hp : okP sg) : okP sg' := by
  unfold okP at *
  have e : ∀ i, mRw sg' i = mRw sg i := fun i => by unfold mRw; rw [h]
  rw [h]
  exact ⟨fun i i0 i1 => by rw [e]; exact hp.1 i i0 i1, hp.2⟩
theorem okP_lay {sg : zSig} {s l : Int32} (s0 : 0 ≤ s) (s1 : s < 16) (n2 : sg 395 0 ≤ 200) (g1 : sg 395 1 ≤ 16) (hp : okP sg) : okP (zup sg 395 (803 + 9 * s + 3) l) := by
  have e0 : zup sg 395 (803 + 9 * s + 3) l 395 0 = sg 395 0 := zup_i (by lia)
  have e1 : zup sg 395 (803 + 9 * s + 3) l 395 1 = sg 395 1 := zup_i (by lia)
  refine ⟨fun i i0 i1 => ?_, fun k k0 k1 => ?_⟩
  · rw [e0] at i1
    have : mRw (zup sg 395 (803 + 9 * s + 3) l) i = mRw sg i := by
      unfold mRw; rw [zup_i (by lia), zup_i (by lia), zup_i (by lia)]
    rw [this]; exact hp.1 i i0 i1
  · rw [e1] at k1
    have hn : ∀ f, 0 ≤ f → f < 9 → f ≠ 3 → zup sg 395 (803 + 9 * s + 3) l 395 (803 + 9 * k + f) = sg 395 (803 + 9 * k + f) := fun f f0 f1 f3 => zup_i (fun e => by
      have h1 := blks_inj k0 (by lia) f0 f1 s0 s1 (by decide) (by decide) e
      rw [h1] at e
      exact f3 ((zadd_l _ _ _).mp e))
    have h0 := hn 0 (by decide) (by decide) (by decide)
    rw [← z0a] at h0
    rw [h0, hn 4 (by decide) (by decide) (by decide), hn 5 (by decide) (by decide) (by decide), hn 6 (by decide) (by decide) (by decide)]
    exact hp.2 k k0 k1
/-! the longest run -/
theorem zit_nn {S : Int32 → Int32} {i n : Int32} (i0 : 0 ≤ i) (i1 : i ≤ n) (n1 : n ≤ 200) : 0 ≤ (zit (rL S) (0, 0) i).1 := by
  refine zit_stable (P := fun x : Int32 × Int32 => 0 ≤ x.1) (i := 0) (Int32.le_refl 0) i0 (fun j x _ _ h => ?_) (Int32.le_refl 0)
  show 0 ≤ fMax x.1 _
  unfold fMax; split <;> lia
theorem rL_seg {S A : Int32 → Int32} {n r q : Int32} (n1 : n ≤ 200) (h : rOf S A n r) (q0 : 0 ≤ q) (q1 : q < r) : ∀ j, A q + 1 ≤ j → j ≤ A (q + 1) → zit (rL S) (0, 0) j = (fMax (zit (rL S) (0, 0) (A q)).1 (j - A q), j - A q) := by
  obtain ⟨⟨a0, a1, a2, -⟩, b1, b2, b3, -⟩ := h.2.2.2 q q0 q1
  refine zind ?_ (fun j j0 j1 hj => ?_)
  · rw [zit_s _ _ a0 a1]
    unfold rL
    rw [if_neg a2, show A q + 1 - A q = 1 by grind]
  · rw [zit_s _ _ (by lia) (by lia : j < n), hj]
    have hr : ∀ x : Int32 × Int32, bg S j = 0 → rL S j x = (fMax x.1 (x.2 + 1), x.2 + 1) := fun x hx => by unfold rL; rw [if_pos hx]
    rw [hr _ (b3 j (by lia) (by lia))]
    show (fMax (fMax (zit (rL S) (0, 0) (A q)).1 (j - A q)) (j - A q + 1), j - A q + 1) = _
    generalize (zit (rL S) (0, 0) (A q)).1 = m
    have e : j - A q + 1 = j + 1 - A q := by grind
    rw [e]
    congr 1
    clear hj hr b3 h e
    unfold fMax
    by_cases h1 : m < j - A q
    · rw [if_pos h1, if_pos (by lia), if_pos (by lia)]
    · rw [if_neg h1]
def lgI (S A : Int32 → Int32) (its most k : Int32) : Prop := most = (zit (rL S) (0, 0) (A k)).1 ∧ ((k = 0 ∧ its = -1 ∧ most = 0) ∨ (0 ≤ its ∧ its < k ∧ A (its + 1) - A its = most ∧ (∀ q, 0 ≤ q → q < its → A (q + 1) - A q < most) ∧ (∀ q, 0 ≤ q → q < k → A (q + 1) - A q ≤ most) ∧ 0 < most))
theorem lgI_0 {S A : Int32 → Int32} {n r : Int32} (h : rOf S A n r) : lgI S A (-1) 0 0 := by
  have h2 := h.2.1
  refine ⟨?_, Or.inl ⟨rfl, rfl, rfl⟩⟩
  have : A 0 = 0 := by
    by_cases hr : r = 0
    · have := h.2.2.1; rw [hr] at this; rw [this]; exact h2.2.2.1 hr
    · exact h2.2.2.2 (by lia)
  rw [this]; rfl
theorem lgI_s {S A : Int32 → Int32} {n r its most k : Int32} (n1 : n ≤ 200) (h : rOf S A n r) (k0 : 0 ≤ k) (k1 : k < r) (hi : lgI S A its most k) : lgI S A (if most < A (k + 1) - A k then k else its) (if most < A (k + 1) - A k then A (k + 1) - A k else most) (k + 1) := by
  obtain ⟨⟨a0, a1, a2, -⟩, b1, b2, -⟩ := h.2.2.2 k k0 k1
  have hs := rL_seg n1 h k0 k1 (A (k + 1)) (by lia) (Int32.le_refl _)
  obtain ⟨h1, h2⟩ := hi
  have h21 := h.2.1
  have nn : 0 ≤ most := by rw [h1]; exact zit_nn a0 (Int32.le_of_lt a1) n1
  by_cases hm : most < A (k + 1) - A k
  · rw [if_pos hm, if_pos hm]
    refine ⟨?_, Or.inr ⟨k0, by lia, rfl, fun q q0 q1 => ?_, fun q q0 q1 => ?_, by lia⟩⟩
    · rw [hs, ← h1]; show _ = fMax most _; unfold fMax; rw [if_pos hm]
    · rcases h2 with h2 | h2
      · exfalso; lia
      · have := h2.2.2.2.2.1 q q0 q1; lia
    · by_cases hq : q = k
      · rw [hq]; exact Int32.le_refl _
      · rcases h2 with h2 | h2
        · exfalso; lia
        · have := h2.2.2.2.2.1 q q0 (by lia); lia
  · rw [if_neg hm, if_neg hm]
    refine ⟨?_, ?_⟩
    · rw [hs, ← h1]; show _ = fMax most _; unfold fMax; rw [if_neg hm]
    · rcases h2 with h2 | h2
      · exfalso; lia
      · refine Or.inr ⟨h2.1, by lia, h2.2.2.1, h2.2.2.2.1, fun q q0 q1 => ?_, h2.2.2.2.2.2⟩
        by_cases hq : q = k
        · rw [hq]; lia
        · exact h2.2.2.2.2.1 q q0 (by lia)
theorem rOf_at {S A : Int32 → Int32} {n r : Int32} (n1 : n ≤ 200) (h : rOf S A n r) : ∀ k, 0 ≤ k → k ≤ r → ∀ j, 0 ≤ j → j < A k → ∃ q, 0 ≤ q ∧ q < k ∧ A q ≤ j ∧ j < A (q + 1) := by
  have h21 := h.2.1
  refine zind ?_ (fun k k0 k1 ih j j0 j1 => ?_)
  · intro j j0 j1
    exfalso
    have : A 0 = 0 := by
      by_cases hr : r = 0
      · have := h.2.2.1; rw [hr] at this; rw [this]; exact h21.2.2.1 hr
      · exact h21.2.2.2 (by lia)
    rw [this] at j1; lia
  · by_cases hj : j < A k
    · obtain ⟨q, a, b, c⟩ := ih j j0 hj
      exact ⟨q, a, by lia, c⟩
    · exact ⟨k, k0, by lia, by lia, j1⟩
theorem rOf_mono {S A : Int32 → Int32} {n r : Int32} (n1 : n ≤ 200) (h : rOf S A n r) {p : Int32} (p0 : 0 ≤ p) : ∀ q, p ≤ q → q ≤ r → A p ≤ A q := by
  have h21 := h.2.1
  refine zind (Int32.le_refl _) (fun k k0 k1 ih => ?_)
  have := h.2.2.2 k (by lia) k1
  exact Int32.le_trans ih (Int32.le_of_lt this.2.1)
theorem rN_sh {S : Int32 → Int32} {n : Int32} (n0 : 0 ≤ n) (n1 : n ≤ 200) : zit (rN S) (-1) n = zit (rN S) 0 n - 1 := by
  refine zind (P := fun n => zit (rN S) (-1) n = zit (rN S) 0 n - 1) (a := 0) (b := 200) rfl (fun j j0 j1 hj => ?_) n n0 n1
  show zit (rN S) (-1) (j + 1) = zit (rN S) 0 (j + 1) - 1
  rw [zit_s _ _ j0 j1, zit_s _ _ j0 j1, hj]
  unfold rN
  split
  · rfl
  · grind
theorem lgI_end {S A : Int32 → Int32} {n r its most : Int32} (n0 : 0 ≤ n) (n1 : n ≤ 200) (h : rOf S A n r) (hi : lgI S A its most r) : most = (zit (rL S) (0, 0) n).1 ∧ qLr S n its := by
  have h21 := h.2.1
  have hA := h.2.2.1
  obtain ⟨h1, h2⟩ := hi
  rw [hA] at h1
  refine ⟨h1, ?_⟩
  rcases h2 with ⟨hr, hv, -⟩ | ⟨i0, i1, hw, hb, hall, hpos⟩
  · refine Or.inr ⟨hv, fun j j0 j1 => ?_⟩
    have := h21.2.2.1 hr
    exfalso; lia
  · obtain ⟨⟨a0, a1, a2, a3⟩, b1, b2, b3, -⟩ := h.2.2.2 its i0 i1
    have e1 : A (its + 1) - 1 + 1 = A (its + 1) := by grind
    have en : zit (rN S) 0 (A (its + 1)) = its + 1 := by
      by_cases hq : its + 1 = r
      · rw [hq, hA]; exact h.1.symm
      · exact (h.2.2.2 (its + 1) (by lia) (by lia)).1.2.2.2
    refine Or.inl ⟨A (its + 1) - 1, by lia, by lia, ?_, ?_, fun j j0 j1 => ?_⟩
    · rw [e1, rN_sh (by lia) (by lia), en]; grind
    · rw [e1, rL_seg n1 h i0 i1 (A (its + 1)) (by lia) (Int32.le_refl _), ← h1]; exact hw
    · obtain ⟨q, q0, q1, q2, q3⟩ := rOf_at n1 h (its + 1) (by lia) (by lia) j j0 (by lia)
      rw [rL_seg n1 h q0 (by lia) (j + 1) (by lia) (by lia), ← h1]
      show j + 1 - A q ≠ most
      by_cases hq : q = its
      · rw [hq] at q2 q3 ⊢; lia
      · have c1 := hb q q0 (by lia)
        have c2 := h.2.2.2 q q0 (by lia)
        lia
theorem bkMo_longest_0 : zBk mMo_longest 0 [(1, 0, 1, 0, 0), (0, 0, 0, 0, -1)] = some 2 := by decide +kernel
theorem bkMo_longest_5 : zBk mMo_longest 5 [(0, 0, 0, 0, -1), (2, 2, 0, 0, 0), (0, 0, 0, 0, 0), (2, 3, 0, 0, 0), (0, 0, 0, 0, 0), (2, 4, 0, 0, 0)] = some 12 := by decide +kernel
theorem bkMo_longest_12 : zBk mMo_longest 12 [(1, 4, 0, 0, 0), (1, 0, 1, 0, 0), (5, 10, 29, 0, 29)] = some 18 := by decide +kernel
theorem bkMo_longest_72 : zBk mMo_longest 72 [(1, 1, 0, 0, 0)] = some 73 := by decide +kernel
theorem bkMo_longest_80 : zBk mMo_longest 80 [(1, 3, 0, 0, 0)] = some 81 := by decide +kernel
theorem bkMo_longest_76 : zBk mMo_longest 76 [(1, 2, 0, 0, 0), (22, 81, 0, 0, 0)] = some 81 := by decide +kernel
theorem bkMo_longest_21 : zBk mMo_longest 21 [(1, 0, 1, 0, 0), (5, 10, 28, 16, 28), (1, 4, 0, 0, 0), (0, 0, 0, 0, 1), (4, 0, 0, 0, 0), (7, 0, 0, 0, 0), (1, 0, 1, 0, 0), (5, 10, 28, 16, 28), (1, 4, 0, 0, 0), (7, 0, 0, 0, 0), (4, 1, 0, 0, 0), (2, 5, 0, 0, 0), (1, 5, 0, 0, 0), (1, 3, 0, 0, 0)] = some 43 := by decide +kernel
theorem bkMo_longest_51 : zBk mMo_longest 51 [(1, 2, 0, 0, 0), (2, 2, 0, 0, 0), (1, 5, 0, 0, 0), (1, 3, 0, 0, 0)] = some 56 := by decide +kernel
theorem bkMo_longest_64 : zBk mMo_longest 64 [(1, 3, 0, 0, 0), (2, 3, 0, 0, 0), (3, 4, 0, 0, 1), (22, 12, 0, 0, 0)] = some 12 := by decide +kernel
theorem bkMo_longest_59 : zBk mMo_longest 59 [(1, 5, 0, 0, 0), (22, 65, 0, 0, 0), (2, 3, 0, 0, 0), (3, 4, 0, 0, 1), (22, 12, 0, 0, 0)] = some 12 := by decide +kernel
theorem bkMo_longest_46 : zBk mMo_longest 46 [(1, 4, 0, 0, 0), (22, 52, 0, 0, 0), (2, 2, 0, 0, 0), (1, 5, 0, 0, 0), (1, 3, 0, 0, 0)] = some 56 := by decide +kernel
theorem bdMo_longest_2 : decode mMo_longest.2.2.1 2 = .ok (.invokevirtual 272, 3) := by decide +kernel
theorem bdMo_longest_18 : decode mMo_longest.2.2.1 18 = .ok (.if_icmp .ge 54, 3) := by decide +kernel
theorem bdMo_longest_43 : decode mMo_longest.2.2.1 43 = .ok (.if_icmp .le 8, 3) := by decide +kernel
theorem bdMo_longest_56 : decode mMo_longest.2.2.1 56 = .ok (.if_icmp .le 8, 3) := by decide +kernel
theorem bdMo_longest_73 : decode mMo_longest.2.2.1 73 = .ok (.ifCond .eq 7, 3) := by decide +kernel
theorem bdMo_longest_81 : decode mMo_longest.2.2.1 81 = .ok (.ireturn, 1) := by decide +kernel
theorem lMo_longest {sg : zSig} {b : Int32} (n0 : 0 ≤ sg 395 0) (n2 : sg 395 0 ≤ 200) (g0 : 0 ≤ sg 395 1) (g1 : sg 395 1 ≤ 16) (hp : okP sg) {Q : Option Value → zHp → Prop} (hq : ∀ rr h', (∃ v sg', rr = some (.int v) ∧ h' = zN sg' ∧ mQ sg sg' ∧ (b = 0 → v = (zit (rL (mSy sg (-1))) (0, 0) (sg 395 0)).1) ∧ (b ≠ 0 → qLr (mSy sg (-1)) (sg 395 0) v)) → Q rr h') : zG mMo_longest 411 Q 0 [(0, .ref 393), (1, .int b)] [] (zN sg) := by
  refine zG_run bkMo_longest_0 (lv' := [(0, .ref 393), (1, .int b)]) (st' := [.int (-1), .ref 393]) (h' := zN sg) (Ps := []) rfl trivial ?_
  refine zG_callv (a := 393) (c := 10) (As := [.int (-1)]) (rest := []) (N2 := 411) bdMo_longest_2 okMo_layRuns lk10_272 (And.intro (by decide) (by decide)) (by decide) rfl rfl rfl (Nat.le_of_ble_eq_true rfl) (Nat.le_of_ble_eq_true rfl) (Nat.le_refl 411) (Nat.le_refl 411) zob_393 (cMo_layRuns (but := (-1)) (by lia) (by lia) (by lia) (by lia) (mSy_n0 _ hp g0)) ?_
  rintro rr h' ⟨sg2, rfl, rfl, hf2, hr2⟩ -
  have kr2 := mQ_row hf2
  have r02 := hr2.2.1
  refine zG_run bkMo_longest_5 (lv' := [(4, .int 0), (3, .int 0), (2, .int (-1)), (0, .ref 393), (1, .int b)]) (st' := []) (h' := zN sg2) (Ps := []) rfl trivial ?_
  refine zG_pick (lv' := [(0, .ref 393), (1, .int b), (2, .int (-1)), (3, .int 0), (4, .int 0)]) [3, 4, 2, 1, 0] rfl ?_
  refine zlp3 (fun (its : Int32) (most : Int32) (k : Int32) => zG mMo_longest 411 Q 12 [(0, .ref 393), (1, .int b), (2, .int its), (3, .int most), (4, .int k)] [] (zN sg2)) (fun (its : Int32) (most : Int32) (k : Int32) => (0 ≤ k) ∧ (k ≤ sg2 393 29) ∧ (lgI (mSy sg (-1)) (sg2 409) its most k)) (fun (its : Int32) (most : Int32) (k : Int32) => zmu (sg2 393 29) k) ?_ (-1) 0 0 ?_
  · intro its most k hI ih
    obtain ⟨k0, k1, kz⟩ := hI
    refine zb_icge (tgt := 72) bkMo_longest_12 bdMo_longest_18 (by decide) (lv' := [(0, .ref 393), (1, .int b), (2, .int its), (3, .int most), (4, .int k)]) (st' := []) (h' := zN sg2) (x := k) (y := sg2 393 29) (Ps := [zOb (zN sg2) 393 10]) rfl (zA zob_393 trivial) (fun c1 => ?_) (fun c1 => ?_)
    · skip
      refine zb_ifeq (tgt := 80) bkMo_longest_72 bdMo_longest_73 (by decide) (lv' := [(0, .ref 393), (1, .int b), (2, .int its), (3, .int most), (4, .int k)]) (st' := []) (h' := zN sg2) (x := b) (Ps := []) rfl trivial (fun c2 => ?_) (fun c2 => ?_)
      · skip
        refine zb_iret bkMo_longest_80 bdMo_longest_81 rfl (x := most) (h' := zN sg2) (Ps := []) rfl trivial rfl ?_
        refine hq _ _ ?_
        have ek : k = sg2 393 29 := by lia
        rw [ek] at kz
        have he := lgI_end n0 n2 hr2 kz
        refine ⟨_, _, rfl, rfl, hf2, fun hb => ?_, fun hb => ?_⟩
        · first | (exfalso; lia; done) | exact he.1
        · first | (exfalso; lia; done) | exact he.2
      · skip
        refine zb_iret bkMo_longest_76 bdMo_longest_81 rfl (x := its) (h' := zN sg2) (Ps := []) rfl trivial rfl ?_
        refine hq _ _ ?_
        have ek : k = sg2 393 29 := by lia
        rw [ek] at kz
        have he := lgI_end n0 n2 hr2 kz
        refine ⟨_, _, rfl, rfl, hf2, fun hb => ?_, fun hb => ?_⟩
        · first | (exfalso; lia; done) | exact he.1
        · first | (exfalso; lia; done) | exact he.2
    · skip
      refine zb_icle (tgt := 51) bkMo_longest_21 bdMo_longest_43 (by decide) (lv' := [(5, .int ((sg2 409 (k + 1)) - (sg2 409 k))), (0, .ref 393), (1, .int b), (2, .int its), (3, .int most), (4, .int k)]) (st' := []) (h' := zN sg2) (x := (sg2 409 (k + 1)) - (sg2 409 k)) (y := most) (Ps := [zOb (zN sg2) 393 10 ∧ (zN sg2).2.2 393 28 = true, zInL (zN sg2) 409 (k + 1), zOb (zN sg2) 393 10 ∧ (zN sg2).2.2 393 28 = true, zInL (zN sg2) 409 k]) rfl (zA ⟨zob_393, rfl⟩ (zA (zinL_409 (i := k + 1) (by lia) (by lia)) (zA ⟨zob_393, rfl⟩ (zA (zinL_409 (i := k) (by lia) (by lia)) trivial)))) (fun c3 => ?_) (fun c3 => ?_)
      · skip
        refine zb_icle (tgt := 64) bkMo_longest_51 bdMo_longest_56 (by decide) (lv' := [(2, .int its), (5, .int ((sg2 409 (k + 1)) - (sg2 409 k))), (0, .ref 393), (1, .int b), (3, .int most), (4, .int k)]) (st' := []) (h' := zN sg2) (x := (sg2 409 (k + 1)) - (sg2 409 k)) (y := most) (Ps := []) rfl trivial (fun c4 => ?_) (fun c4 => ?_)
        · skip
          refine zG_run bkMo_longest_64 (lv' := [(4, .int (k + 1)), (3, .int most), (2, .int its), (5, .int ((sg2 409 (k + 1)) - (sg2 409 k))), (0, .ref 393), (1, .int b)]) (st' := []) (h' := zN sg2) (Ps := []) rfl trivial ?_
          refine zG_pick (lv' := [(0, .ref 393), (1, .int b), (2, .int its), (3, .int most), (4, .int (k + 1))]) [4, 5, 2, 1, 0] rfl ?_
          refine ih its most (k + 1) ?_ ?_
          · refine ⟨?_, ?_, ?_⟩
            · lia
            · lia
            · have hs := lgI_s n2 hr2 k0 (by lia) kz
              first | (rw [if_pos (by lia), if_pos (by lia)] at hs; exact hs) | (rw [if_neg (by lia), if_neg (by lia)] at hs; exact hs) | (exfalso; lia)
          · exact zmu_up (by lia)
        · skip
          refine zG_run bkMo_longest_59 (lv' := [(4, .int (k + 1)), (3, .int ((sg2 409 (k + 1)) - (sg2 409 k))), (2, .int its), (5, .int ((sg2 409 (k + 1)) - (sg2 409 k))), (0, .ref 393), (1, .int b)]) (st' := []) (h' := zN sg2) (Ps := []) rfl trivial ?_
          refine zG_pick (lv' := [(0, .ref 393), (1, .int b), (2, .int its), (3, .int ((sg2 409 (k + 1)) - (sg2 409 k))), (4, .int (k + 1))]) [4, 5, 2, 1, 0] rfl ?_
          refine ih its ((sg2 409 (k + 1)) - (sg2 409 k)) (k + 1) ?_ ?_
          · refine ⟨?_, ?_, ?_⟩
            · lia
            · lia
            · have hs := lgI_s n2 hr2 k0 (by lia) kz
              first | (rw [if_pos (by lia), if_pos (by lia)] at hs; exact hs) | (rw [if_neg (by lia), if_neg (by lia)] at hs; exact hs) | (exfalso; lia)
          · exact zmu_up (by lia)
      · skip
        refine zb_icle (tgt := 64) bkMo_longest_46 bdMo_longest_56 (by decide) (lv' := [(2, .int k), (5, .int ((sg2 409 (k + 1)) - (sg2 409 k))), (0, .ref 393), (1, .int b), (3, .int most), (4, .int k)]) (st' := []) (h' := zN sg2) (x := (sg2 409 (k + 1)) - (sg2 409 k)) (y := most) (Ps := []) rfl trivial (fun c5 => ?_) (fun c5 => ?_)
        · skip
          refine zG_run bkMo_longest_64 (lv' := [(4, .int (k + 1)), (3, .int most), (2, .int k), (5, .int ((sg2 409 (k + 1)) - (sg2 409 k))), (0, .ref 393), (1, .int b)]) (st' := []) (h' := zN sg2) (Ps := []) rfl trivial ?_
          refine zG_pick (lv' := [(0, .ref 393), (1, .int b), (2, .int k), (3, .int most), (4, .int (k + 1))]) [4, 5, 2, 1, 0] rfl ?_
          refine ih k most (k + 1) ?_ ?_
          · refine ⟨?_, ?_, ?_⟩
            · lia
            · lia
            · have hs := lgI_s n2 hr2 k0 (by lia) kz
              first | (rw [if_pos (by lia), if_pos (by lia)] at hs; exact hs) | (rw [if_neg (by lia), if_neg (by lia)] at hs; exact hs) | (exfalso; lia)
          · exact zmu_up (by lia)
        · skip
          refine zG_run bkMo_longest_59 (lv' := [(4, .int (k + 1)), (3, .int ((sg2 409 (k + 1)) - (sg2 409 k))), (2, .int k), (5, .int ((sg2 409 (k + 1)) - (sg2 409 k))), (0, .ref 393), (1, .int b)]) (st' := []) (h' := zN sg2) (Ps := []) rfl trivial ?_
          refine zG_pick (lv' := [(0, .ref 393), (1, .int b), (2, .int k), (3, .int ((sg2 409 (k + 1)) - (sg2 409 k))), (4, .int (k + 1))]) [4, 5, 2, 1, 0] rfl ?_
          refine ih k ((sg2 409 (k + 1)) - (sg2 409 k)) (k + 1) ?_ ?_
          · refine ⟨?_, ?_, ?_⟩
            · lia
            · lia
            · have hs := lgI_s n2 hr2 k0 (by lia) kz
              first | (rw [if_pos (by lia), if_pos (by lia)] at hs; exact hs) | (rw [if_neg (by lia), if_neg (by lia)] at hs; exact hs) | (exfalso; lia)
          · exact zmu_up (by lia)
  · refine ⟨?_, ?_, ?_⟩
    · lia
    · lia
    · exact lgI_0 hr2
theorem cMo_longest {sg : zSig} {b : Int32} (n0 : 0 ≤ sg 395 0) (n2 : sg 395 0 ≤ 200) (g0 : 0 ≤ sg 395 1) (g1 : sg 395 1 ≤ 16) (hp : okP sg) : zG mMo_longest 411 (fun rr h' => ∃ v sg', rr = some (.int v) ∧ h' = zN sg' ∧ mQ sg sg' ∧ (b = 0 → v = (zit (rL (mSy sg (-1))) (0, 0) (sg 395 0)).1) ∧ (b ≠ 0 → qLr (mSy sg (-1)) (sg 395 0) v)) 0 [(0, .ref 393), (1, .int b)] [] (zN sg) := lMo_longest n0 n2 g0 g1 hp (fun _ _ q => q)
theorem bkMo_unlike_0 : zBk mMo_unlike 0 [(0, 0, 0, 0, 0), (2, 1, 0, 0, 0), (0, 0, 0, 0, 0), (2, 2, 0, 0, 0)] = some 4 := by decide +kernel
theorem bkMo_unlike_4 : zBk mMo_unlike 4 [(1, 2, 0, 0, 0), (1, 0, 1, 0, 0), (5, 10, 3, 2, 3), (0, 0, 0, 0, 0), (7, 0, 0, 0, 0)] = some 11 := by decide +kernel
theorem bkMo_unlike_87 : zBk mMo_unlike 87 [(1, 1, 0, 0, 0)] = some 88 := by decide +kernel
theorem bkMo_unlike_14 : zBk mMo_unlike 14 [(1, 0, 1, 0, 0), (5, 10, 30, 17, 30), (1, 2, 0, 0, 0), (1, 0, 1, 0, 0), (1, 2, 0, 0, 0), (0, 0, 0, 0, -1)] = some 22 := by decide +kernel
theorem bkMo_unlike_25 : zBk mMo_unlike 25 [(8, 0, 0, 0, 0)] = some 26 := by decide +kernel
theorem bkMo_unlike_26 : zBk mMo_unlike 26 [(0, 0, 0, 0, 1), (2, 3, 0, 0, 0), (0, 0, 0, 0, 0), (2, 4, 0, 0, 0)] = some 31 := by decide +kernel
theorem bkMo_unlike_31 : zBk mMo_unlike 31 [(1, 4, 0, 0, 0), (1, 2, 0, 0, 0)] = some 34 := by decide +kernel
theorem bkMo_unlike_69 : zBk mMo_unlike 69 [(1, 1, 0, 0, 0), (1, 3, 0, 0, 0)] = some 71 := by decide +kernel
theorem bkMo_unlike_78 : zBk mMo_unlike 78 [(0, 0, 0, 0, 0), (4, 0, 0, 0, 0), (2, 1, 0, 0, 0), (3, 2, 0, 0, 1), (22, 4, 0, 0, 0)] = some 4 := by decide +kernel
theorem bkMo_unlike_74 : zBk mMo_unlike 74 [(0, 0, 0, 0, 1), (22, 79, 0, 0, 0), (4, 0, 0, 0, 0), (2, 1, 0, 0, 0), (3, 2, 0, 0, 1), (22, 4, 0, 0, 0)] = some 4 := by decide +kernel
theorem bkMo_unlike_37 : zBk mMo_unlike 37 [(1, 3, 0, 0, 0)] = some 38 := by decide +kernel
theorem bkMo_unlike_61 : zBk mMo_unlike 61 [(0, 0, 0, 0, 0), (2, 3, 0, 0, 0), (3, 4, 0, 0, 1), (22, 31, 0, 0, 0)] = some 31 := by decide +kernel
theorem bkMo_unlike_41 : zBk mMo_unlike 41 [(1, 0, 1, 0, 0), (5, 10, 30, 17, 30), (1, 4, 0, 0, 0), (7, 0, 0, 0, 0), (1, 0, 1, 0, 0), (5, 10, 30, 17, 30), (1, 2, 0, 0, 0), (7, 0, 0, 0, 0)] = some 54 := by decide +kernel
theorem bkMo_unlike_57 : zBk mMo_unlike 57 [(0, 0, 0, 0, 1), (22, 62, 0, 0, 0), (2, 3, 0, 0, 0), (3, 4, 0, 0, 1), (22, 31, 0, 0, 0)] = some 31 := by decide +kernel
theorem bdMo_unlike_11 : decode mMo_unlike.2.2.1 11 = .ok (.if_icmp .ge 76, 3) := by decide +kernel
theorem bdMo_unlike_22 : decode mMo_unlike.2.2.1 22 = .ok (.invokevirtual 265, 3) := by decide +kernel
theorem bdMo_unlike_34 : decode mMo_unlike.2.2.1 34 = .ok (.if_icmp .ge 35, 3) := by decide +kernel
theorem bdMo_unlike_38 : decode mMo_unlike.2.2.1 38 = .ok (.ifCond .eq 23, 3) := by decide +kernel
theorem bdMo_unlike_54 : decode mMo_unlike.2.2.1 54 = .ok (.if_icmp .eq 7, 3) := by decide +kernel
theorem bdMo_unlike_71 : decode mMo_unlike.2.2.1 71 = .ok (.ifCond .eq 7, 3) := by decide +kernel
theorem bdMo_unlike_88 : decode mMo_unlike.2.2.1 88 = .ok (.ireturn, 1) := by decide +kernel
theorem lMo_unlike {sg : zSig}  (n0 : 0 ≤ sg 395 0) (n2 : sg 395 0 ≤ 200) (g0 : 0 ≤ sg 395 1) (g1 : sg 395 1 ≤ 16) {Q : Option Value → zHp → Prop} (hq : ∀ rr h', (∃ v sg', rr = some (.int v) ∧ h' = zN sg' ∧ mQ sg sg' ∧ v = zit (uN (mSy sg (-1))) 0 (sg 395 0)) → Q rr h') : zG mMo_unlike 411 Q 0 [(0, .ref 393)] [] (zN sg) := by
  refine zG_run bkMo_unlike_0 (lv' := [(2, .int 0), (1, .int 0), (0, .ref 393)]) (st' := []) (h' := zN sg) (Ps := []) rfl trivial ?_
  refine zG_pick (lv' := [(0, .ref 393), (1, .int 0), (2, .int 0)]) [2, 1, 0] rfl ?_
  refine zlp3 (fun (a : Int32) (i : Int32) (sg1 : zSig) => zG mMo_unlike 411 Q 4 [(0, .ref 393), (1, .int a), (2, .int i)] [] (zN sg1)) (fun (a : Int32) (i : Int32) (sg1 : zSig) => (0 ≤ i) ∧ (i ≤ sg 395 0) ∧ (mQ sg sg1) ∧ (∀ j, 0 ≤ j → j < i → sg1 410 j = mSy sg (-1) j) ∧ (a = zit (uN (mSy sg (-1))) 0 i)) (fun (a : Int32) (i : Int32) (sg1 : zSig) => zmu (sg 395 0) i) ?_ 0 0 sg ?_
  · intro a i sg1 ho iho
    obtain ⟨i0, i1, lf, lst, lz⟩ := ho
    have kr := mQ_row lf
    have ke0 : sg1 395 0 = sg 395 0 := congrFun kr 0
    have ke1 : sg1 395 1 = sg 395 1 := congrFun kr 1
    refine zb_icge (tgt := 87) bkMo_unlike_4 bdMo_unlike_11 (by decide) (lv' := [(0, .ref 393), (1, .int a), (2, .int i)]) (st' := []) (h' := zN sg1) (x := i) (y := sg1 395 0) (Ps := [zOb (zN sg1) 393 10 ∧ (zN sg1).2.2 393 3 = true, zInL (zN sg1) 395 0]) rfl (zA ⟨zob_393, rfl⟩ (zA (zinL_395 (i := 0) (by decide) (by decide)) trivial)) (fun c1 => ?_) (fun c1 => ?_)
    · skip
      refine zb_iret bkMo_unlike_87 bdMo_unlike_88 rfl (x := a) (h' := zN sg1) (Ps := []) rfl trivial rfl ?_
      refine hq _ _ ?_
      refine ⟨_, _, rfl, rfl, lf, ?_⟩
      rw [lz, show i = sg 395 0 by lia]
    · skip
      refine zG_run bkMo_unlike_14 (lv' := [(0, .ref 393), (1, .int a), (2, .int i)]) (st' := [.int (-1), .int i, .ref 393, .int i, .ref 410]) (h' := zN sg1) (Ps := [zOb (zN sg1) 393 10 ∧ (zN sg1).2.2 393 30 = true]) rfl (zA ⟨zob_393, rfl⟩ trivial) ?_
      refine zG_callv (a := 393) (c := 10) (As := [.int i, .int (-1)]) (rest := [.int i, .ref 410]) (N2 := 411) bdMo_unlike_22 okMo_styleOf lk10_265 (And.intro (by decide) (by decide)) (by decide) rfl rfl rfl (Nat.le_of_ble_eq_true rfl) (Nat.le_of_ble_eq_true rfl) (Nat.le_refl 411) (Nat.le_refl 411) zob_393 (cMo_styleOf (i := i) (but := (-1)) (by lia) (by lia) (by lia) (by lia)) ?_
      rintro rr h' ⟨sg2x, rfl, rfl, hfr, hmt⟩ -
      refine zG_run bkMo_unlike_25 (lv' := [(0, .ref 393), (1, .int a), (2, .int i)]) (st' := []) (h' := zN (zup sg2x 410 i (mSy sg1 (-1) i))) (Ps := [zIn (zN sg2x) 410 0 i]) rfl (zA (zin_410 (i := i) (by lia) (by lia)) trivial) ?_
      refine zG_nm (sg := zup sg2x 410 i (mSy sg1 (-1) i)) (fun sg3 e3 => ?_)
      have f3 : mQ sg sg3 := mQ_trans lf (mQ_trans (mFr_Q hfr) (fun c j a1 a2 a3 a4 a5 a6 => by rw [e3, zup_a a5]))
      have kr3 := mQ_row f3
      have st3 : ∀ j, 0 ≤ j → j < i + 1 → sg3 410 j = mSy sg (-1) j := by
        intro j j0 j1; rw [e3]; by_cases hj : j = i
        · rw [hj, zup_s, mSy_row kr]
        · rw [zup_i hj, hfr 410 j (Or.inl (by decide))]; exact lst j j0 (by lia)
      have st3i := st3 i i0 (by lia)
      clear e3
      refine zG_run bkMo_unlike_26 (lv' := [(4, .int 0), (3, .int 1), (0, .ref 393), (1, .int a), (2, .int i)]) (st' := []) (h' := zN sg3) (Ps := []) rfl trivial ?_
      refine zG_pick (lv' := [(0, .ref 393), (1, .int a), (2, .int i), (3, .int 1), (4, .int 0)]) [2, 3, 4, 1, 0] rfl ?_
      refine zlp2 (fun (b : Int32) (k : Int32) => zG mMo_unlike 411 Q 31 [(0, .ref 393), (1, .int a), (2, .int i), (3, .int b), (4, .int k)] [] (zN sg3)) (fun (b : Int32) (k : Int32) => (0 ≤ k) ∧ (k ≤ i) ∧ ((b = 1 ∧ zit (fun j a => if mSy sg (-1) j = mSy sg (-1) i then 1 else a) 0 k = (0 : Int32)) ∨ (b = 0 ∧ zit (fun j a => if mSy sg (-1) j = mSy sg (-1) i then 1 else a) 0 k = (1 : Int32)))) (fun (b : Int32) (k : Int32) => zmu i k) ?_ 1 0 ?_
      · intro b k hk ihk
        obtain ⟨k0, k1, kz⟩ := hk
        have ek1 : k < i → sg3 410 k = mSy sg (-1) k := fun h => st3 k k0 (by lia)
        refine zb_icge (tgt := 69) bkMo_unlike_31 bdMo_unlike_34 (by decide) (lv' := [(0, .ref 393), (1, .int a), (2, .int i), (3, .int b), (4, .int k)]) (st' := []) (h' := zN sg3) (x := k) (y := i) (Ps := []) rfl trivial (fun c2 => ?_) (fun c2 => ?_)
        · skip
          refine zb_ifeq (tgt := 78) bkMo_unlike_69 bdMo_unlike_71 (by decide) (lv' := [(0, .ref 393), (1, .int a), (2, .int i), (3, .int b), (4, .int k)]) (st' := [.int a]) (h' := zN sg3) (x := b) (Ps := []) rfl trivial (fun c3 => ?_) (fun c3 => ?_)
          · skip
            refine zG_run bkMo_unlike_78 (lv' := [(2, .int (i + 1)), (1, .int (a + 0)), (0, .ref 393), (3, .int b), (4, .int k)]) (st' := []) (h' := zN sg3) (Ps := []) rfl trivial ?_
            refine zG_pick (lv' := [(0, .ref 393), (1, .int (a + 0)), (2, .int (i + 1))]) [2, 1, 0] rfl ?_
            refine iho (a + 0) (i + 1) sg3 ?_ ?_
            · refine ⟨?_, ?_, ?_, ?_, ?_⟩
              · lia
              · lia
              · exact f3
              · exact st3
              · rw [zit_s _ _ i0 (by lia : i < sg 395 0), ← lz]; rw [show k = i by lia] at kz; unfold uN seen; clear iho hq st3 lst lf; grind
            · exact zmu_up (by lia)
          · skip
            refine zG_run bkMo_unlike_74 (lv' := [(2, .int (i + 1)), (1, .int (a + 1)), (0, .ref 393), (3, .int b), (4, .int k)]) (st' := []) (h' := zN sg3) (Ps := []) rfl trivial ?_
            refine zG_pick (lv' := [(0, .ref 393), (1, .int (a + 1)), (2, .int (i + 1))]) [2, 1, 0] rfl ?_
            refine iho (a + 1) (i + 1) sg3 ?_ ?_
            · refine ⟨?_, ?_, ?_, ?_, ?_⟩
              · lia
              · lia
              · exact f3
              · exact st3
              · rw [zit_s _ _ i0 (by lia : i < sg 395 0), ← lz]; rw [show k = i by lia] at kz; unfold uN seen; clear iho hq st3 lst lf; grind
            · exact zmu_up (by lia)
        · skip
          refine zb_ifeq (tgt := 61) bkMo_unlike_37 bdMo_unlike_38 (by decide) (lv' := [(0, .ref 393), (1, .int a), (2, .int i), (3, .int b), (4, .int k)]) (st' := []) (h' := zN sg3) (x := b) (Ps := []) rfl trivial (fun c4 => ?_) (fun c4 => ?_)
          · skip
            refine zG_run bkMo_unlike_61 (lv' := [(4, .int (k + 1)), (3, .int 0), (0, .ref 393), (1, .int a), (2, .int i)]) (st' := []) (h' := zN sg3) (Ps := []) rfl trivial ?_
            refine zG_pick (lv' := [(0, .ref 393), (1, .int a), (2, .int i), (3, .int 0), (4, .int (k + 1))]) [2, 3, 4, 1, 0] rfl ?_
            refine ihk 0 (k + 1) ?_ ?_
            · refine ⟨?_, ?_, ?_⟩
              · lia
              · lia
              · rw [zit_s _ _ k0 (by lia : k < i)]; have ek2 := ek1 (by lia); clear ihk iho hq st3 lst; grind
            · exact zmu_up (by lia)
          · skip
            refine zb_iceq (tgt := 61) bkMo_unlike_41 bdMo_unlike_54 (by decide) (lv' := [(0, .ref 393), (1, .int a), (2, .int i), (3, .int b), (4, .int k)]) (st' := []) (h' := zN sg3) (x := sg3 410 k) (y := sg3 410 i) (Ps := [zOb (zN sg3) 393 10 ∧ (zN sg3).2.2 393 30 = true, zInL (zN sg3) 410 k, zOb (zN sg3) 393 10 ∧ (zN sg3).2.2 393 30 = true, zInL (zN sg3) 410 i]) rfl (zA ⟨zob_393, rfl⟩ (zA (zinL_410 (i := k) (by lia) (by lia)) (zA ⟨zob_393, rfl⟩ (zA (zinL_410 (i := i) (by lia) (by lia)) trivial)))) (fun c5 => ?_) (fun c5 => ?_)
            · skip
              refine zG_run bkMo_unlike_61 (lv' := [(4, .int (k + 1)), (3, .int 0), (0, .ref 393), (1, .int a), (2, .int i)]) (st' := []) (h' := zN sg3) (Ps := []) rfl trivial ?_
              refine zG_pick (lv' := [(0, .ref 393), (1, .int a), (2, .int i), (3, .int 0), (4, .int (k + 1))]) [2, 3, 4, 1, 0] rfl ?_
              refine ihk 0 (k + 1) ?_ ?_
              · refine ⟨?_, ?_, ?_⟩
                · lia
                · lia
                · rw [zit_s _ _ k0 (by lia : k < i)]; have ek2 := ek1 (by lia); clear ihk iho hq st3 lst; grind
              · exact zmu_up (by lia)
            · skip
              refine zG_run bkMo_unlike_57 (lv' := [(4, .int (k + 1)), (3, .int 1), (0, .ref 393), (1, .int a), (2, .int i)]) (st' := []) (h' := zN sg3) (Ps := []) rfl trivial ?_
              refine zG_pick (lv' := [(0, .ref 393), (1, .int a), (2, .int i), (3, .int 1), (4, .int (k + 1))]) [2, 3, 4, 1, 0] rfl ?_
              refine ihk 1 (k + 1) ?_ ?_
              · refine ⟨?_, ?_, ?_⟩
                · lia
                · lia
                · rw [zit_s _ _ k0 (by lia : k < i)]; have ek2 := ek1 (by lia); clear ihk iho hq st3 lst; grind
              · exact zmu_up (by lia)
      · refine ⟨?_, ?_, ?_⟩
        · lia
        · lia
        · exact Or.inl ⟨rfl, rfl⟩
  · refine ⟨?_, ?_, ?_, ?_, ?_⟩
    · lia
    · lia
    · exact mQ_refl
    · intro j j0 j1; exfalso; lia
    · rfl
theorem cMo_unlike {sg : zSig}  (n0 : 0 ≤ sg 395 0) (n2 : sg 395 0 ≤ 200) (g0 : 0 ≤ sg 395 1) (g1 : sg 395 1 ≤ 16) : zG mMo_unlike 411 (fun rr h' => ∃ v sg', rr = some (.int v) ∧ h' = zN sg' ∧ mQ sg sg' ∧ v = zit (uN (mSy sg (-1))) 0 (sg 395 0)) 0 [(0, .ref 393)] [] (zN sg) := lMo_unlike n0 n2 g0 g1 (fun _ _ q => q)
def mOv (sg : zSig) (i k a : Int32) : Int32 := if sg 395 (803 + 9 * k) = 1 ∧ sg 395 (803 + 9 * k + 1) ≤ i ∧ i < sg 395 (803 + 9 * k + 2) then a + 1 else a
def mMo (sg : zSig) (i a : Int32) : Int32 := fMax a (zit (mOv sg i) 0 (sg 395 1))
def mOa (sg : zSig) (w k a : Int32) : Int32 := a + (if sg 395 (947 + 4 * k) = 1 then sg 395 (947 + 4 * k + w) else 0)
theorem bkMo_highest_0 : zBk mMo_highest 0 [(0, 0, 0, 0, 0), (2, 1, 0, 0, 0), (0, 0, 0, 0, 0), (2, 2, 0, 0, 0)] = some 4 := by decide +kernel
theorem bkMo_highest_4 : zBk mMo_highest 4 [(1, 2, 0, 0, 0), (1, 0, 1, 0, 0), (5, 10, 3, 2, 3), (0, 0, 0, 0, 0), (7, 0, 0, 0, 0)] = some 11 := by decide +kernel
theorem bkMo_highest_71 : zBk mMo_highest 71 [(1, 1, 0, 0, 0)] = some 72 := by decide +kernel
theorem bkMo_highest_14 : zBk mMo_highest 14 [(0, 0, 0, 0, 0), (2, 3, 0, 0, 0), (0, 0, 0, 0, 0), (2, 4, 0, 0, 0)] = some 19 := by decide +kernel
theorem bkMo_highest_19 : zBk mMo_highest 19 [(1, 4, 0, 0, 0), (1, 0, 1, 0, 0), (5, 10, 3, 2, 3), (0, 0, 0, 0, 1), (7, 0, 0, 0, 0)] = some 27 := by decide +kernel
theorem bkMo_highest_54 : zBk mMo_highest 54 [(1, 3, 0, 0, 0), (1, 1, 0, 0, 0)] = some 56 := by decide +kernel
theorem bkMo_highest_63 : zBk mMo_highest 63 [(1, 1, 0, 0, 0), (2, 1, 0, 0, 0), (3, 2, 0, 0, 1), (22, 4, 0, 0, 0)] = some 4 := by decide +kernel
theorem bkMo_highest_59 : zBk mMo_highest 59 [(1, 3, 0, 0, 0), (22, 64, 0, 0, 0), (2, 1, 0, 0, 0), (3, 2, 0, 0, 1), (22, 4, 0, 0, 0)] = some 4 := by decide +kernel
theorem bkMo_highest_30 : zBk mMo_highest 30 [(1, 3, 0, 0, 0), (1, 0, 1, 0, 0), (1, 4, 0, 0, 0), (1, 2, 0, 0, 0)] = some 35 := by decide +kernel
theorem bkMo_highest_38 : zBk mMo_highest 38 [] = some 38 := by decide +kernel
theorem bkMo_highest_45 : zBk mMo_highest 45 [(0, 0, 0, 0, 0), (4, 0, 0, 0, 0), (2, 3, 0, 0, 0), (3, 4, 0, 0, 1), (22, 19, 0, 0, 0)] = some 19 := by decide +kernel
theorem bkMo_highest_41 : zBk mMo_highest 41 [(0, 0, 0, 0, 1), (22, 46, 0, 0, 0), (4, 0, 0, 0, 0), (2, 3, 0, 0, 0), (3, 4, 0, 0, 1), (22, 19, 0, 0, 0)] = some 19 := by decide +kernel
theorem bdMo_highest_11 : decode mMo_highest.2.2.1 11 = .ok (.if_icmp .ge 60, 3) := by decide +kernel
theorem bdMo_highest_27 : decode mMo_highest.2.2.1 27 = .ok (.if_icmp .ge 27, 3) := by decide +kernel
theorem bdMo_highest_35 : decode mMo_highest.2.2.1 35 = .ok (.invokevirtual 189, 3) := by decide +kernel
theorem bdMo_highest_38 : decode mMo_highest.2.2.1 38 = .ok (.ifCond .eq 7, 3) := by decide +kernel
theorem bdMo_highest_56 : decode mMo_highest.2.2.1 56 = .ok (.if_icmp .le 7, 3) := by decide +kernel
theorem bdMo_highest_72 : decode mMo_highest.2.2.1 72 = .ok (.ireturn, 1) := by decide +kernel
theorem lMo_highest {sg : zSig}  (n0 : 0 ≤ sg 395 0) (n2 : sg 395 0 ≤ 200) (g0 : 0 ≤ sg 395 1) (g1 : sg 395 1 ≤ 16) {Q : Option Value → zHp → Prop} (hq : ∀ rr h', (rr = some (.int (zit (mMo sg) 0 (sg 395 0))) ∧ h' = zN sg) → Q rr h') : zG mMo_highest 411 Q 0 [(0, .ref 393)] [] (zN sg) := by
  refine zG_run bkMo_highest_0 (lv' := [(2, .int 0), (1, .int 0), (0, .ref 393)]) (st' := []) (h' := zN sg) (Ps := []) rfl trivial ?_
  refine zG_pick (lv' := [(0, .ref 393), (1, .int 0), (2, .int 0)]) [2, 1, 0] rfl ?_
  refine zlp2 (fun (m : Int32) (i : Int32) => zG mMo_highest 411 Q 4 [(0, .ref 393), (1, .int m), (2, .int i)] [] (zN sg)) (fun (m : Int32) (i : Int32) => (0 ≤ i) ∧ (i ≤ sg 395 0) ∧ (m = zit (mMo sg) 0 i)) (fun (m : Int32) (i : Int32) => zmu (sg 395 0) i) ?_ 0 0 ?_
  · intro m i ho iho
    obtain ⟨i0, i1, lz⟩ := ho
    refine zb_icge (tgt := 71) bkMo_highest_4 bdMo_highest_11 (by decide) (lv' := [(0, .ref 393), (1, .int m), (2, .int i)]) (st' := []) (h' := zN sg) (x := i) (y := sg 395 0) (Ps := [zOb (zN sg) 393 10 ∧ (zN sg).2.2 393 3 = true, zInL (zN sg) 395 0]) rfl (zA ⟨zob_393, rfl⟩ (zA (zinL_395 (i := 0) (by decide) (by decide)) trivial)) (fun c1 => ?_) (fun c1 => ?_)
    · skip
      refine zb_iret bkMo_highest_71 bdMo_highest_72 rfl (x := m) (h' := zN sg) (Ps := []) rfl trivial rfl ?_
      refine hq _ _ ?_
      refine ⟨?_, rfl⟩
      rw [lz, show i = sg 395 0 by lia]
    · skip
      refine zG_run bkMo_highest_14 (lv' := [(4, .int 0), (3, .int 0), (0, .ref 393), (1, .int m), (2, .int i)]) (st' := []) (h' := zN sg) (Ps := []) rfl trivial ?_
      refine zG_pick (lv' := [(0, .ref 393), (1, .int m), (2, .int i), (3, .int 0), (4, .int 0)]) [2, 3, 4, 1, 0] rfl ?_
      refine zlp2 (fun (a : Int32) (k : Int32) => zG mMo_highest 411 Q 19 [(0, .ref 393), (1, .int m), (2, .int i), (3, .int a), (4, .int k)] [] (zN sg)) (fun (a : Int32) (k : Int32) => (0 ≤ k) ∧ (k ≤ sg 395 1) ∧ (a = zit (mOv sg i) 0 k)) (fun (a : Int32) (k : Int32) => zmu (sg 395 1) k) ?_ 0 0 ?_
      · intro a k hk ihk
        obtain ⟨k0, k1, kz⟩ := hk
        refine zb_icge (tgt := 54) bkMo_highest_19 bdMo_highest_27 (by decide) (lv' := [(0, .ref 393), (1, .int m), (2, .int i), (3, .int a), (4, .int k)]) (st' := []) (h' := zN sg) (x := k) (y := sg 395 1) (Ps := [zOb (zN sg) 393 10 ∧ (zN sg).2.2 393 3 = true, zInL (zN sg) 395 1]) rfl (zA ⟨zob_393, rfl⟩ (zA (zinL_395 (i := 1) (by decide) (by decide)) trivial)) (fun c2 => ?_) (fun c2 => ?_)
        · skip
          refine zb_icle (tgt := 63) bkMo_highest_54 bdMo_highest_56 (by decide) (lv' := [(0, .ref 393), (1, .int m), (2, .int i), (3, .int a), (4, .int k)]) (st' := []) (h' := zN sg) (x := a) (y := m) (Ps := []) rfl trivial (fun c3 => ?_) (fun c3 => ?_)
          · skip
            refine zG_run bkMo_highest_63 (lv' := [(2, .int (i + 1)), (1, .int m), (0, .ref 393), (3, .int a), (4, .int k)]) (st' := []) (h' := zN sg) (Ps := []) rfl trivial ?_
            refine zG_pick (lv' := [(0, .ref 393), (1, .int m), (2, .int (i + 1))]) [2, 1, 0] rfl ?_
            refine iho m (i + 1) ?_ ?_
            · refine ⟨?_, ?_, ?_⟩
              · lia
              · lia
              · rw [zit_s _ _ i0 (by lia : i < sg 395 0), ← lz]; rw [show k = sg 395 1 by lia] at kz; unfold mMo; rw [← kz]; unfold fMax; first | rw [if_pos (by lia)] | rw [if_neg (by lia)]
            · exact zmu_up (by lia)
          · skip
            refine zG_run bkMo_highest_59 (lv' := [(2, .int (i + 1)), (1, .int a), (0, .ref 393), (3, .int a), (4, .int k)]) (st' := []) (h' := zN sg) (Ps := []) rfl trivial ?_
            refine zG_pick (lv' := [(0, .ref 393), (1, .int a), (2, .int (i + 1))]) [2, 1, 0] rfl ?_
            refine iho a (i + 1) ?_ ?_
            · refine ⟨?_, ?_, ?_⟩
              · lia
              · lia
              · rw [zit_s _ _ i0 (by lia : i < sg 395 0), ← lz]; rw [show k = sg 395 1 by lia] at kz; unfold mMo; rw [← kz]; unfold fMax; first | rw [if_pos (by lia)] | rw [if_neg (by lia)]
            · exact zmu_up (by lia)
        · skip
          refine zG_run bkMo_highest_30 (lv' := [(0, .ref 393), (1, .int m), (2, .int i), (3, .int a), (4, .int k)]) (st' := [.int i, .int k, .ref 393, .int a]) (h' := zN sg) (Ps := []) rfl trivial ?_
          refine zG_callv (a := 393) (c := 10) (As := [.int k, .int i]) (rest := [.int a]) (N2 := 411) bdMo_highest_35 okMo_isOver lk10_189 (And.intro (by decide) (by decide)) (by decide) rfl rfl rfl (Nat.le_of_ble_eq_true rfl) (Nat.le_of_ble_eq_true rfl) (Nat.le_refl 411) (Nat.le_refl 411) zob_393 (cMo_isOver (by lia) (by lia)) ?_
          rintro rr h' ⟨rfl, rfl⟩ -
          refine zb_ifeq (tgt := 45) bkMo_highest_38 bdMo_highest_38 (by decide) (lv' := [(0, .ref 393), (1, .int m), (2, .int i), (3, .int a), (4, .int k)]) (st' := [.int a]) (h' := zN sg) (x := if sg 395 (803 + 9 * k) = 1 ∧ sg 395 (803 + 9 * k + 1) ≤ i ∧ i < sg 395 (803 + 9 * k + 2) then 1 else 0) (Ps := []) rfl trivial (fun c4 => ?_) (fun c4 => ?_)
          · skip
            refine zG_run bkMo_highest_45 (lv' := [(4, .int (k + 1)), (3, .int (a + 0)), (0, .ref 393), (1, .int m), (2, .int i)]) (st' := []) (h' := zN sg) (Ps := []) rfl trivial ?_
            refine zG_pick (lv' := [(0, .ref 393), (1, .int m), (2, .int i), (3, .int (a + 0)), (4, .int (k + 1))]) [2, 3, 4, 1, 0] rfl ?_
            refine ihk (a + 0) (k + 1) ?_ ?_
            · refine ⟨?_, ?_, ?_⟩
              · lia
              · lia
              · rw [zit_s _ _ k0 (by lia : k < sg 395 1), ← kz]; unfold mOv; clear ihk iho hq kz lz; grind
            · exact zmu_up (by lia)
          · skip
            refine zG_run bkMo_highest_41 (lv' := [(4, .int (k + 1)), (3, .int (a + 1)), (0, .ref 393), (1, .int m), (2, .int i)]) (st' := []) (h' := zN sg) (Ps := []) rfl trivial ?_
            refine zG_pick (lv' := [(0, .ref 393), (1, .int m), (2, .int i), (3, .int (a + 1)), (4, .int (k + 1))]) [2, 3, 4, 1, 0] rfl ?_
            refine ihk (a + 1) (k + 1) ?_ ?_
            · refine ⟨?_, ?_, ?_⟩
              · lia
              · lia
              · rw [zit_s _ _ k0 (by lia : k < sg 395 1), ← kz]; unfold mOv; clear ihk iho hq kz lz; grind
            · exact zmu_up (by lia)
      · refine ⟨?_, ?_, ?_⟩
        · lia
        · lia
        · rfl
  · refine ⟨?_, ?_, ?_⟩
    · lia
    · lia
    · rfl
theorem cMo_highest {sg : zSig}  (n0 : 0 ≤ sg 395 0) (n2 : sg 395 0 ≤ 200) (g0 : 0 ≤ sg 395 1) (g1 : sg 395 1 ≤ 16) : zG mMo_highest 411 (fun rr h' => rr = some (.int (zit (mMo sg) 0 (sg 395 0))) ∧ h' = zN sg) 0 [(0, .ref 393)] [] (zN sg) := lMo_highest n0 n2 g0 g1 (fun _ _ q => q)
theorem bkMo_ofAnchors_0 : zBk mMo_ofAnchors 0 [(0, 0, 0, 0, 0), (2, 2, 0, 0, 0), (0, 0, 0, 0, 0), (2, 3, 0, 0, 0)] = some 4 := by decide +kernel
theorem bkMo_ofAnchors_4 : zBk mMo_ofAnchors 4 [(1, 3, 0, 0, 0), (1, 0, 1, 0, 0), (5, 10, 3, 2, 3), (0, 0, 0, 0, 2), (7, 0, 0, 0, 0)] = some 11 := by decide +kernel
theorem bkMo_ofAnchors_51 : zBk mMo_ofAnchors 51 [(1, 2, 0, 0, 0)] = some 52 := by decide +kernel
theorem bkMo_ofAnchors_14 : zBk mMo_ofAnchors 14 [(1, 2, 0, 0, 0), (1, 0, 1, 0, 0), (5, 10, 3, 2, 3), (1, 3, 0, 0, 0)] = some 20 := by decide +kernel
theorem bkMo_ofAnchors_23 : zBk mMo_ofAnchors 23 [(7, 0, 0, 0, 0), (0, 0, 0, 0, 1)] = some 25 := by decide +kernel
theorem bkMo_ofAnchors_42 : zBk mMo_ofAnchors 42 [(0, 0, 0, 0, 0), (4, 0, 0, 0, 0), (2, 2, 0, 0, 0), (3, 3, 0, 0, 1), (22, 4, 0, 0, 0)] = some 4 := by decide +kernel
theorem bkMo_ofAnchors_28 : zBk mMo_ofAnchors 28 [(1, 0, 1, 0, 0), (5, 10, 3, 2, 3), (1, 3, 0, 0, 0)] = some 33 := by decide +kernel
theorem bkMo_ofAnchors_36 : zBk mMo_ofAnchors 36 [(1, 1, 0, 0, 0), (4, 0, 0, 0, 0), (7, 0, 0, 0, 0), (22, 43, 0, 0, 0), (4, 0, 0, 0, 0), (2, 2, 0, 0, 0), (3, 3, 0, 0, 1), (22, 4, 0, 0, 0)] = some 4 := by decide +kernel
theorem bdMo_ofAnchors_11 : decode mMo_ofAnchors.2.2.1 11 = .ok (.if_icmp .ge 40, 3) := by decide +kernel
theorem bdMo_ofAnchors_20 : decode mMo_ofAnchors.2.2.1 20 = .ok (.invokestatic 94, 3) := by decide +kernel
theorem bdMo_ofAnchors_25 : decode mMo_ofAnchors.2.2.1 25 = .ok (.if_icmp .ne 17, 3) := by decide +kernel
theorem bdMo_ofAnchors_33 : decode mMo_ofAnchors.2.2.1 33 = .ok (.invokestatic 94, 3) := by decide +kernel
theorem bdMo_ofAnchors_52 : decode mMo_ofAnchors.2.2.1 52 = .ok (.ireturn, 1) := by decide +kernel
theorem lMo_ofAnchors {sg : zSig} {w : Int32} (a0 : 0 ≤ sg 395 2) (a1 : sg 395 2 ≤ 12) (w0 : 0 ≤ w) (w1 : w < 4) {Q : Option Value → zHp → Prop} (hq : ∀ rr h', (rr = some (.int (zit (mOa sg w) 0 (sg 395 2))) ∧ h' = zN sg) → Q rr h') : zG mMo_ofAnchors 411 Q 0 [(0, .ref 393), (1, .int w)] [] (zN sg) := by
  refine zG_run bkMo_ofAnchors_0 (lv' := [(3, .int 0), (2, .int 0), (0, .ref 393), (1, .int w)]) (st' := []) (h' := zN sg) (Ps := []) rfl trivial ?_
  refine zG_pick (lv' := [(0, .ref 393), (1, .int w), (2, .int 0), (3, .int 0)]) [2, 3, 1, 0] rfl ?_
  refine zlp2 (fun (a : Int32) (k : Int32) => zG mMo_ofAnchors 411 Q 4 [(0, .ref 393), (1, .int w), (2, .int a), (3, .int k)] [] (zN sg)) (fun (a : Int32) (k : Int32) => (0 ≤ k) ∧ (k ≤ sg 395 2) ∧ (a = zit (mOa sg w) 0 k)) (fun (a : Int32) (k : Int32) => zmu (sg 395 2) k) ?_ 0 0 ?_
  · intro a k hI ih
    obtain ⟨k0, k1, kz⟩ := hI
    refine zb_icge (tgt := 51) bkMo_ofAnchors_4 bdMo_ofAnchors_11 (by decide) (lv' := [(0, .ref 393), (1, .int w), (2, .int a), (3, .int k)]) (st' := []) (h' := zN sg) (x := k) (y := sg 395 2) (Ps := [zOb (zN sg) 393 10 ∧ (zN sg).2.2 393 3 = true, zInL (zN sg) 395 2]) rfl (zA ⟨zob_393, rfl⟩ (zA (zinL_395 (i := 2) (by decide) (by decide)) trivial)) (fun c1 => ?_) (fun c1 => ?_)
    · skip
      refine zb_iret bkMo_ofAnchors_51 bdMo_ofAnchors_52 rfl (x := a) (h' := zN sg) (Ps := []) rfl trivial rfl ?_
      refine hq _ _ ?_
      refine ⟨?_, rfl⟩
      rw [kz, show k = sg 395 2 by lia]
    · skip
      refine zG_run bkMo_ofAnchors_14 (lv' := [(0, .ref 393), (1, .int w), (2, .int a), (3, .int k)]) (st' := [.int k, .ref 395, .int a]) (h' := zN sg) (Ps := [zOb (zN sg) 393 10 ∧ (zN sg).2.2 393 3 = true]) rfl (zA ⟨zob_393, rfl⟩ trivial) ?_
      refine zG_calls (As := [.int k]) (rest := [.ref 395, .int a]) (N2 := 411) bdMo_ofAnchors_20 okMo_anchorAt lk10_94 (And.intro (by decide) (by decide)) rfl rfl (Nat.le_of_ble_eq_true rfl) (Nat.le_of_ble_eq_true rfl) (Nat.le_refl 411) (Nat.le_refl 411) cMo_anchorAt ?_
      rintro rr h' ⟨rfl, rfl⟩ -
      refine zb_icne (tgt := 42) bkMo_ofAnchors_23 bdMo_ofAnchors_25 (by decide) (lv' := [(0, .ref 393), (1, .int w), (2, .int a), (3, .int k)]) (st' := [.int a]) (h' := zN sg) (x := sg 395 (947 + 4 * k)) (y := 1) (Ps := [zInL (zN sg) 395 (947 + 4 * k)]) rfl (zA (zinL_395 (i := 947 + 4 * k) (by lia) (by lia)) trivial) (fun c2 => ?_) (fun c2 => ?_)
      · skip
        refine zG_run bkMo_ofAnchors_42 (lv' := [(3, .int (k + 1)), (2, .int (a + 0)), (0, .ref 393), (1, .int w)]) (st' := []) (h' := zN sg) (Ps := []) rfl trivial ?_
        refine zG_pick (lv' := [(0, .ref 393), (1, .int w), (2, .int (a + 0)), (3, .int (k + 1))]) [2, 3, 1, 0] rfl ?_
        refine ih (a + 0) (k + 1) ?_ ?_
        · refine ⟨?_, ?_, ?_⟩
          · lia
          · lia
          · rw [zit_s _ _ k0 (by lia : k < sg 395 2), ← kz]; unfold mOa; first | rw [if_pos (by lia)] | rw [if_neg (by lia)]
        · exact zmu_up (by lia)
      · skip
        refine zG_run bkMo_ofAnchors_28 (lv' := [(0, .ref 393), (1, .int w), (2, .int a), (3, .int k)]) (st' := [.int k, .ref 395, .int a]) (h' := zN sg) (Ps := [zOb (zN sg) 393 10 ∧ (zN sg).2.2 393 3 = true]) rfl (zA ⟨zob_393, rfl⟩ trivial) ?_
        refine zG_calls (As := [.int k]) (rest := [.ref 395, .int a]) (N2 := 411) bdMo_ofAnchors_33 okMo_anchorAt lk10_94 (And.intro (by decide) (by decide)) rfl rfl (Nat.le_of_ble_eq_true rfl) (Nat.le_of_ble_eq_true rfl) (Nat.le_refl 411) (Nat.le_refl 411) cMo_anchorAt ?_
        rintro rr h' ⟨rfl, rfl⟩ -
        refine zG_run bkMo_ofAnchors_36 (lv' := [(3, .int (k + 1)), (2, .int (a + (sg 395 ((947 + 4 * k) + w)))), (0, .ref 393), (1, .int w)]) (st' := []) (h' := zN sg) (Ps := [zInL (zN sg) 395 ((947 + 4 * k) + w)]) rfl (zA (zinL_395 (i := (947 + 4 * k) + w) (by lia) (by lia)) trivial) ?_
        refine zG_pick (lv' := [(0, .ref 393), (1, .int w), (2, .int (a + (sg 395 ((947 + 4 * k) + w)))), (3, .int (k + 1))]) [2, 3, 1, 0] rfl ?_
        refine ih (a + (sg 395 ((947 + 4 * k) + w))) (k + 1) ?_ ?_
        · refine ⟨?_, ?_, ?_⟩
          · lia
          · lia
          · rw [zit_s _ _ k0 (by lia : k < sg 395 2), ← kz]; unfold mOa; first | rw [if_pos (by lia)] | rw [if_neg (by lia)]
        · exact zmu_up (by lia)
  · refine ⟨?_, ?_, ?_⟩
    · lia
    · lia
    · rfl
theorem cMo_ofAnchors {sg : zSig} {w : Int32} (a0 : 0 ≤ sg 395 2) (a1 : sg 395 2 ≤ 12) (w0 : 0 ≤ w) (w1 : w < 4) : zG mMo_ofAnchors 411 (fun rr h' => rr = some (.int (zit (mOa sg w) 0 (sg 395 2))) ∧ h' = zN sg) 0 [(0, .ref 393), (1, .int w)] [] (zN sg) := lMo_ofAnchors a0 a1 w0 w1 (fun _ _ q => q)
def mSt (sg : zSig) (i w : Int32) : Int32 := if (0 ≤ i ∧ i < sg 395 0) ∧ 0 ≤ w ∧ w ≤ 6 then (if 3 ≤ w ∧ w ≤ 5 then sg 395 (3 + 4 * i + w - 2) else if w = 0 then (mS sg (-1) i).1 else if w = 1 then (mS sg (-1) i).2.1 else if w = 2 then (mS sg (-1) i).2.2 else mSy sg (-1) i) else -1
theorem bkMo_style_5 : zBk mMo_style 5 [(1, 0, 1, 0, 0), (1, 1, 0, 0, 0)] = some 7 := by decide +kernel
theorem bkMo_style_10 : zBk mMo_style 10 [] = some 10 := by decide +kernel
theorem bkMo_style_25 : zBk mMo_style 25 [(0, 0, 0, 0, -1)] = some 26 := by decide +kernel
theorem bkMo_style_13 : zBk mMo_style 13 [(1, 2, 0, 0, 0), (14, 0, 0, 0, 0), (15, 0, 0, 0, 0), (15, 0, 0, 0, 6)] = some 19 := by decide +kernel
theorem bkMo_style_22 : zBk mMo_style 22 [] = some 22 := by decide +kernel
theorem bkMo_style_27 : zBk mMo_style 27 [(1, 2, 0, 0, 0), (14, 0, 0, 0, 0), (15, 0, 0, 0, 3), (15, 0, 0, 0, 5)] = some 35 := by decide +kernel
theorem bkMo_style_38 : zBk mMo_style 38 [] = some 38 := by decide +kernel
theorem bkMo_style_55 : zBk mMo_style 55 [(1, 0, 1, 0, 0), (1, 1, 0, 0, 0), (0, 0, 0, 0, -1)] = some 58 := by decide +kernel
theorem bkMo_style_61 : zBk mMo_style 61 [(2, 3, 0, 0, 0), (1, 2, 0, 0, 0)] = some 63 := by decide +kernel
theorem bkMo_style_73 : zBk mMo_style 73 [(1, 2, 0, 0, 0), (0, 0, 0, 0, 1)] = some 75 := by decide +kernel
theorem bkMo_style_85 : zBk mMo_style 85 [(1, 2, 0, 0, 0), (0, 0, 0, 0, 2)] = some 87 := by decide +kernel
theorem bkMo_style_97 : zBk mMo_style 97 [(1, 3, 0, 0, 0)] = some 98 := by decide +kernel
theorem bkMo_style_90 : zBk mMo_style 90 [(1, 0, 1, 0, 0), (5, 10, 18, 0, 18), (22, 98, 0, 0, 0)] = some 98 := by decide +kernel
theorem bkMo_style_78 : zBk mMo_style 78 [(1, 0, 1, 0, 0), (5, 10, 17, 0, 17), (22, 98, 0, 0, 0)] = some 98 := by decide +kernel
theorem bkMo_style_66 : zBk mMo_style 66 [(1, 0, 1, 0, 0), (5, 10, 16, 0, 16), (22, 98, 0, 0, 0)] = some 98 := by decide +kernel
theorem bkMo_style_41 : zBk mMo_style 41 [(1, 0, 1, 0, 0), (5, 10, 3, 2, 3), (1, 1, 0, 0, 0)] = some 46 := by decide +kernel
theorem bkMo_style_49 : zBk mMo_style 49 [(1, 2, 0, 0, 0), (4, 0, 0, 0, 0), (0, 0, 0, 0, 2), (4, 1, 0, 0, 0), (7, 0, 0, 0, 0)] = some 54 := by decide +kernel
theorem bkMo_style_0 : zBk mMo_style 0 [(1, 0, 1, 0, 0), (0, 0, 0, 0, 0), (6, 10, 0, 0, 0)] = some 5 := by decide +kernel
theorem bdMo_style_7 : decode mMo_style.2.2.1 7 = .ok (.invokevirtual 258, 3) := by decide +kernel
theorem bdMo_style_10 : decode mMo_style.2.2.1 10 = .ok (.ifCond .eq 15, 3) := by decide +kernel
theorem bdMo_style_19 : decode mMo_style.2.2.1 19 = .ok (.invokestatic 87, 3) := by decide +kernel
theorem bdMo_style_22 : decode mMo_style.2.2.1 22 = .ok (.ifCond .ne 5, 3) := by decide +kernel
theorem bdMo_style_26 : decode mMo_style.2.2.1 26 = .ok (.ireturn, 1) := by decide +kernel
theorem bdMo_style_35 : decode mMo_style.2.2.1 35 = .ok (.invokestatic 87, 3) := by decide +kernel
theorem bdMo_style_38 : decode mMo_style.2.2.1 38 = .ok (.ifCond .eq 17, 3) := by decide +kernel
theorem bdMo_style_46 : decode mMo_style.2.2.1 46 = .ok (.invokestatic 141, 3) := by decide +kernel
theorem bdMo_style_54 : decode mMo_style.2.2.1 54 = .ok (.ireturn, 1) := by decide +kernel
theorem bdMo_style_58 : decode mMo_style.2.2.1 58 = .ok (.invokevirtual 265, 3) := by decide +kernel
theorem bdMo_style_63 : decode mMo_style.2.2.1 63 = .ok (.ifCond .ne 10, 3) := by decide +kernel
theorem bdMo_style_75 : decode mMo_style.2.2.1 75 = .ok (.if_icmp .ne 10, 3) := by decide +kernel
theorem bdMo_style_87 : decode mMo_style.2.2.1 87 = .ok (.if_icmp .ne 10, 3) := by decide +kernel
theorem bdMo_style_98 : decode mMo_style.2.2.1 98 = .ok (.ireturn, 1) := by decide +kernel
theorem bMo_style {sg : zSig} {i w : Int32} (n0 : 0 ≤ sg 395 0) (n2 : sg 395 0 ≤ 200) (g0 : 0 ≤ sg 395 1) (g1 : sg 395 1 ≤ 16) (hp : okP sg) : zG mMo_style 411 (fun rr h' => ∃ v sg', rr = some (.int v) ∧ h' = zN sg' ∧ mQ sg sg' ∧ v = mSt sg i w) 5 [(0, .ref 393), (1, .int i), (2, .int w)] [] (zN sg) := by
  refine zG_run bkMo_style_5 (lv' := [(0, .ref 393), (1, .int i), (2, .int w)]) (st' := [.int i, .ref 393]) (h' := zN sg) (Ps := []) rfl trivial ?_
  refine zG_callv (a := 393) (c := 10) (As := [.int i]) (rest := []) (N2 := 411) bdMo_style_7 okMo_isLetter lk10_258 (And.intro (by decide) (by decide)) (by decide) rfl rfl rfl (Nat.le_of_ble_eq_true rfl) (Nat.le_of_ble_eq_true rfl) (Nat.le_refl 411) (Nat.le_refl 411) zob_393 cMo_isLetter ?_
  rintro rr h' ⟨rfl, rfl⟩ -
  refine zb_ifeq (tgt := 25) bkMo_style_10 bdMo_style_10 (by decide) (lv' := [(0, .ref 393), (1, .int i), (2, .int w)]) (st' := []) (h' := zN sg) (x := if 0 ≤ i ∧ i < sg 395 0 then 1 else 0) (Ps := []) rfl trivial (fun c1 => ?_) (fun c1 => ?_)
  · skip
    refine zb_iret bkMo_style_25 bdMo_style_26 rfl (x := (-1)) (h' := zN sg) (Ps := []) rfl trivial rfl ?_
    refine ⟨_, _, rfl, rfl, mQ_refl, ?_⟩
    unfold mSt
    rw [if_neg (by clear hp; grind)]
  · skip
    refine zG_run bkMo_style_13 (lv' := [(0, .ref 393), (1, .int i), (2, .int w)]) (st' := [.long ((6 : Int32).toInt64), .long ((0 : Int32).toInt64), .long w.toInt64]) (h' := zN sg) (Ps := []) rfl trivial ?_
    refine zG_calls (As := [.long w.toInt64, .long ((0 : Int32).toInt64), .long ((6 : Int32).toInt64)]) (rest := []) (N2 := 411) bdMo_style_19 okMo_in lk10_87 (And.intro (by decide) (by decide)) rfl rfl (Nat.le_of_ble_eq_true rfl) (Nat.le_of_ble_eq_true rfl) (Nat.le_refl 411) (Nat.le_refl 411) cMo_inA ?_
    rintro rr h' ⟨rfl, rfl⟩ -
    refine zb_ifne (tgt := 27) bkMo_style_22 bdMo_style_22 (by decide) (lv' := [(0, .ref 393), (1, .int i), (2, .int w)]) (st' := []) (h' := zN sg) (x := if 0 ≤ w ∧ w ≤ 6 then 1 else 0) (Ps := []) rfl trivial (fun c2 => ?_) (fun c2 => ?_)
    · skip
      have hc : (0 ≤ i ∧ i < sg 395 0) ∧ 0 ≤ w ∧ w ≤ 6 := by clear hp; grind
      refine zG_run bkMo_style_27 (lv' := [(0, .ref 393), (1, .int i), (2, .int w)]) (st' := [.long ((5 : Int32).toInt64), .long ((3 : Int32).toInt64), .long w.toInt64]) (h' := zN sg) (Ps := []) rfl trivial ?_
      refine zG_calls (As := [.long w.toInt64, .long ((3 : Int32).toInt64), .long ((5 : Int32).toInt64)]) (rest := []) (N2 := 411) bdMo_style_35 okMo_in lk10_87 (And.intro (by decide) (by decide)) rfl rfl (Nat.le_of_ble_eq_true rfl) (Nat.le_of_ble_eq_true rfl) (Nat.le_refl 411) (Nat.le_refl 411) cMo_inA ?_
      rintro rr h' ⟨rfl, rfl⟩ -
      refine zb_ifeq (tgt := 55) bkMo_style_38 bdMo_style_38 (by decide) (lv' := [(0, .ref 393), (1, .int i), (2, .int w)]) (st' := []) (h' := zN sg) (x := if 3 ≤ w ∧ w ≤ 5 then 1 else 0) (Ps := []) rfl trivial (fun c3 => ?_) (fun c3 => ?_)
      · skip
        have hw : ¬ (3 ≤ w ∧ w ≤ 5) := by clear hp; grind
        refine zG_run bkMo_style_55 (lv' := [(0, .ref 393), (1, .int i), (2, .int w)]) (st' := [.int (-1), .int i, .ref 393]) (h' := zN sg) (Ps := []) rfl trivial ?_
        refine zG_callv (a := 393) (c := 10) (As := [.int i, .int (-1)]) (rest := []) (N2 := 411) bdMo_style_58 okMo_styleOf lk10_265 (And.intro (by decide) (by decide)) (by decide) rfl rfl rfl (Nat.le_of_ble_eq_true rfl) (Nat.le_of_ble_eq_true rfl) (Nat.le_refl 411) (Nat.le_refl 411) zob_393 (cMo_styleOf (i := i) (but := (-1)) (by lia) (by lia) (by lia) (by lia)) ?_
        rintro rr h' ⟨sg4, rfl, rfl, hfr, hmt⟩ -
        refine zb_ifne (tgt := 73) bkMo_style_61 bdMo_style_63 (by decide) (lv' := [(3, .int (mSy sg (-1) i)), (0, .ref 393), (1, .int i), (2, .int w)]) (st' := []) (h' := zN sg4) (x := w) (Ps := []) rfl trivial (fun c5 => ?_) (fun c5 => ?_)
        · skip
          refine zb_icne (tgt := 85) bkMo_style_73 bdMo_style_75 (by decide) (lv' := [(3, .int (mSy sg (-1) i)), (0, .ref 393), (1, .int i), (2, .int w)]) (st' := []) (h' := zN sg4) (x := w) (y := 1) (Ps := []) rfl trivial (fun c6 => ?_) (fun c6 => ?_)
          · skip
            refine zb_icne (tgt := 97) bkMo_style_85 bdMo_style_87 (by decide) (lv' := [(3, .int (mSy sg (-1) i)), (0, .ref 393), (1, .int i), (2, .int w)]) (st' := []) (h' := zN sg4) (x := w) (y := 2) (Ps := []) rfl trivial (fun c7 => ?_) (fun c7 => ?_)
            · skip
              refine zb_iret bkMo_style_97 bdMo_style_98 rfl (x := mSy sg (-1) i) (h' := zN sg4) (Ps := []) rfl trivial rfl ?_
              refine ⟨_, _, rfl, rfl, mFr_Q hfr, ?_⟩
              unfold mSt; rw [if_pos (by lia), if_neg (by lia)]
              rw [← hmt]
              first | (rw [if_pos (by lia)]; rfl) | (rw [if_neg (by lia), if_pos (by lia)]; rfl) | (rw [if_neg (by lia), if_neg (by lia), if_pos (by lia)]; rfl) | (rw [if_neg (by lia), if_neg (by lia), if_neg (by lia)])
            · skip
              refine zb_iret bkMo_style_90 bdMo_style_98 rfl (x := sg4 393 18) (h' := zN sg4) (Ps := [zOb (zN sg4) 393 10]) rfl (zA zob_393 trivial) rfl ?_
              refine ⟨_, _, rfl, rfl, mFr_Q hfr, ?_⟩
              unfold mSt; rw [if_pos (by lia), if_neg (by lia)]
              rw [← hmt]
              first | (rw [if_pos (by lia)]; rfl) | (rw [if_neg (by lia), if_pos (by lia)]; rfl) | (rw [if_neg (by lia), if_neg (by lia), if_pos (by lia)]; rfl) | (rw [if_neg (by lia), if_neg (by lia), if_neg (by lia)])
          · skip
            refine zb_iret bkMo_style_78 bdMo_style_98 rfl (x := sg4 393 17) (h' := zN sg4) (Ps := [zOb (zN sg4) 393 10]) rfl (zA zob_393 trivial) rfl ?_
            refine ⟨_, _, rfl, rfl, mFr_Q hfr, ?_⟩
            unfold mSt; rw [if_pos (by lia), if_neg (by lia)]
            rw [← hmt]
            first | (rw [if_pos (by lia)]; rfl) | (rw [if_neg (by lia), if_pos (by lia)]; rfl) | (rw [if_neg (by lia), if_neg (by lia), if_pos (by lia)]; rfl) | (rw [if_neg (by lia), if_neg (by lia), if_neg (by lia)])
        · skip
          refine zb_iret bkMo_style_66 bdMo_style_98 rfl (x := sg4 393 16) (h' := zN sg4) (Ps := [zOb (zN sg4) 393 10]) rfl (zA zob_393 trivial) rfl ?_
          refine ⟨_, _, rfl, rfl, mFr_Q hfr, ?_⟩
          unfold mSt; rw [if_pos (by lia), if_neg (by lia)]
          rw [← hmt]
          first | (rw [if_pos (by lia)]; rfl) | (rw [if_neg (by lia), if_pos (by lia)]; rfl) | (rw [if_neg (by lia), if_neg (by lia), if_pos (by lia)]; rfl) | (rw [if_neg (by lia), if_neg (by lia), if_neg (by lia)])
      · skip
        have hw : 3 ≤ w ∧ w ≤ 5 := by clear hp; grind
        refine zG_run bkMo_style_41 (lv' := [(0, .ref 393), (1, .int i), (2, .int w)]) (st' := [.int i, .ref 395]) (h' := zN sg) (Ps := [zOb (zN sg) 393 10 ∧ (zN sg).2.2 393 3 = true]) rfl (zA ⟨zob_393, rfl⟩ trivial) ?_
        refine zG_calls (As := [.int i]) (rest := [.ref 395]) (N2 := 411) bdMo_style_46 okMo_letterAt lk10_141 (And.intro (by decide) (by decide)) rfl rfl (Nat.le_of_ble_eq_true rfl) (Nat.le_of_ble_eq_true rfl) (Nat.le_refl 411) (Nat.le_refl 411) cMo_letterAt ?_
        rintro rr h' ⟨rfl, rfl⟩ -
        refine zb_iret bkMo_style_49 bdMo_style_54 rfl (x := sg 395 (((3 + 4 * i) + w) - 2)) (h' := zN sg) (Ps := [zInL (zN sg) 395 (((3 + 4 * i) + w) - 2)]) rfl (zA (zinL_395 (i := ((3 + 4 * i) + w) - 2) (by lia) (by lia)) trivial) rfl ?_
        refine ⟨_, _, rfl, rfl, mQ_refl, ?_⟩
        unfold mSt
        rw [if_pos (by lia), if_pos (by lia)]
    · skip
      refine zb_iret bkMo_style_25 bdMo_style_26 rfl (x := (-1)) (h' := zN sg) (Ps := []) rfl trivial rfl ?_
      refine ⟨_, _, rfl, rfl, mQ_refl, ?_⟩
      unfold mSt
      rw [if_neg (by clear hp; grind)]
theorem tMo_style {sg : zSig} {i w : Int32} {Q : Option Value → zHp → Prop} (g : zG mMo_style 411 Q 5 [(0, .ref 393), (1, .int i), (2, .int w)] [] (zN (zup sg 393 0 0))) : zG mMo_style 411 Q 0 [(0, .ref 393), (1, .int i), (2, .int w)] [] (zN sg) :=
  zG_run bkMo_style_0 (lv' := [(0, .ref 393), (1, .int i), (2, .int w)]) (st' := []) (h' := zN (zup sg 393 0 0)) (Ps := [zOb (zN sg) 393 10]) rfl (zA zob_393 trivial) g

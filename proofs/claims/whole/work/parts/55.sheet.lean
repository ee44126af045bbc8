/-! the sheet and the row behind each act -/
theorem SR_mk {s : zSig} {r : Int32 → Int32} (e : s 1 2 = r 0 ∧ s 1 4 = r 1 ∧ s 1 6 = r 2) (b : (0 ≤ r 0 ∧ r 0 ≤ 200) ∧ (0 ≤ r 1 ∧ r 1 ≤ 16) ∧ 0 ≤ r 2 ∧ r 2 ≤ 12) (hl : ∀ i, 0 ≤ i → i < r 0 → leR s 1 r i) (hs : ∀ k, 0 ≤ k → k < r 1 → s (zel 4 k) 0 = r (803 + 9 * k) ∧ (r (803 + 9 * k) = 0 ∨ r (803 + 9 * k) = 1) ∧ (r (803 + 9 * k) = 1 → spR s (zel 4 k) r (803 + 9 * k) (r 0))) (ha : ∀ k, 0 ≤ k → k < r 2 → s (zel 5 k) 0 = r (947 + 4 * k) ∧ (r (947 + 4 * k) = 0 ∨ r (947 + 4 * k) = 1) ∧ (r (947 + 4 * k) = 1 → anR s (zel 5 k) r (947 + 4 * k) (r 0))) : SR s 1 r := by
  obtain ⟨e2, e4, e6⟩ := e
  refine ⟨⟨by rw [e2]; exact b.1, by rw [e4]; exact b.2.1, by rw [e6]; exact b.2.2, fun k k0 k1 => ?_, fun k k0 k1 => ?_⟩, ⟨e2, e4, e6⟩, hl, fun k k0 k1 => ⟨(hs k k0 k1).1, (hs k k0 k1).2.2⟩, fun k k0 k1 => ⟨(ha k k0 k1).1, (ha k k0 k1).2.2⟩⟩
  · rw [e4] at k1; have := hs k k0 k1; show s (zel 4 k) 0 = 0 ∨ s (zel 4 k) 0 = 1; rw [this.1]; exact this.2.1
  · rw [e6] at k1; have := ha k k0 k1; show s (zel 5 k) 0 = 0 ∨ s (zel 5 k) 0 = 1; rw [this.1]; exact this.2.1
theorem leR_c {s s' : zSig} {r r' : Int32 → Int32} {i j : Int32} (h1 : s' 2 j = s 2 i) (h2 : s' 3 j = s 3 i) (hr : ∀ x, 0 ≤ x → x < 4 → r' (3 + 4 * j + x) = r (3 + 4 * i + x)) (h : leR s 1 r i) : leR s' 1 r' j := by
  have e0 := hr 0 (by decide) (by decide)
  rw [← z0a, ← z0a] at e0
  unfold leR
  show s' 2 j = _ ∧ _ ∧ s' 3 j = _ ∧ _
  rw [h1, h2, e0, hr 1 (by decide) (by decide), hr 2 (by decide) (by decide), hr 3 (by decide) (by decide)]
  exact h
theorem pOn_rng {x l p m n : Int32} (x0 : 0 ≤ x) (x1 : x ≤ n) (m0 : 0 ≤ m) (n1 : n + m ≤ 200) (n2 : n ≤ 200) (m2 : m ≤ 200) : 0 ≤ pOn x l p m ∧ pOn x l p m ≤ n + m := by
  unfold pOn; split <;> lia
theorem pOn_lt {x y l l' p m n : Int32} (x0 : 0 ≤ x) (xy : x < y) (y1 : y ≤ n) (m0 : 0 ≤ m) (n1 : n + m ≤ 200) (n2 : n ≤ 200) (m2 : m ≤ 200) : pOn x l p m < pOn y l' p m := by
  unfold pOn; split <;> split <;> lia
theorem pBk_rng {x p q n : Int32} (x0 : 0 ≤ x) (x1 : x ≤ n) (p0 : 0 ≤ p) (pq : p < q) (qn : q ≤ n) (n1 : n ≤ 200) : 0 ≤ pBk x p q ∧ pBk x p q ≤ n - (q - p) := by
  unfold pBk; split
  · lia
  · split <;> lia
theorem ar_up {i p m n x : Int32} (p0 : 0 ≤ p) (pn : p ≤ n) (m0 : 0 < m) (nm : n + m ≤ 200) (n2 : n ≤ 200) (m2 : m ≤ 200) (i0 : 0 ≤ i) (i1 : i < n + m) (h2 : ¬ i < p + m) (x0 : 0 ≤ x) (x3 : x < 4) : (3 + 4 * p + 4 * m ≤ 3 + 4 * i + x ∧ 3 + 4 * i + x < 3 + 4 * n + 4 * m) ∧ 3 ≤ 3 + 4 * i + x ∧ 3 + 4 * i + x < 803 := by
  have h3 : p + m ≤ i := by lia
  have h4 : i ≤ 200 := by lia
  clear h2
  refine ⟨⟨by lia, by lia⟩, by lia, by lia⟩
section
variable {s s' t t' : zSig}
/-! letters come -/
set_option maxHeartbeats 8000000 in
theorem S_put {t1 : zSig} {p m : Int32} (h : SR s 1 (t 395)) (hc : hPut s s' p m) (hk : mMk t t1 p m 0) (hf : mCf t1 t' p m) (p0 : 0 ≤ p) (p1 : p ≤ t 395 0) (m0 : 0 < m) (m1 : t 395 0 + m ≤ 200) (m2 : m ≤ 200) (hT : ∀ j, 0 ≤ j → j < m → (0 ≤ s 35 j ∧ s 35 j ≤ 127) ∧ t 401 j = s 35 j) : SR s' 1 (t' 395) := by
  have hb := SR_b h
  obtain ⟨⟨c1, c2, c3, c4, c5⟩, c6, c7, c8⟩ := hc
  obtain ⟨k1, k2, k3, k4, k5, k6, k7⟩ := hk
  obtain ⟨f1, f2, f3'⟩ := hf
  have r0 : t' 395 0 = t 395 0 + m := by rw [f2 0 (Or.inl (by lia))]; exact k2
  have r1 : t' 395 1 = t 395 1 := by rw [f2 1 (Or.inl (by lia))]; exact k3
  have r2 : t' 395 2 = t 395 2 := by rw [f2 2 (Or.inl (by lia))]; exact k4
  have e2 := h.2.1.1
  refine SR_mk ⟨by rw [r0, c6, e2], by rw [r1, c2]; exact h.2.1.2.1, by rw [r2, c3]; exact h.2.1.2.2⟩ ⟨by rw [r0]; lia, by rw [r1]; exact hb.2.1, by rw [r2]; exact hb.2.2⟩ (fun i i0 i1 => ?_) (fun k k0 g1 => ?_) (fun k k0 g1 => ?_)
  · rw [r0] at i1
    have x1 := c7 i i0 (by lia)
    have x2 := c8 i i0 (by lia)
    unfold lIn at x1 x2
    by_cases h1 : i < p
    · rw [if_pos h1] at x1 x2
      refine leR_c x1 x2 (fun x x0 x3 => ?_) (h.2.2.1 i i0 (by lia))
      rw [f2 _ (Or.inl (by lia)), k5 _ (by lia) (by lia), if_neg (by lia)]
    · by_cases h2 : i < p + m
      · rw [if_neg h1, if_pos h2] at x1 x2
        have hv : ∀ x, 0 ≤ x → x < 4 → t' 395 (3 + 4 * i + x) = mCv t1 p (i - p) x := fun x x0 x3 => by
          have := f3' (i - p) x (by lia) (by lia) x0 x3
          rw [show p + (i - p) = i by grind] at this
          exact this
        have v0 := hv 0 (by decide) (by decide)
        rw [← z0a] at v0
        have hTi := hT (i - p) (by lia) (by lia)
        unfold leR
        show s' 2 i = _ ∧ _ ∧ s' 3 i = _ ∧ _
        rw [x1, x2, v0, hv 1 (by decide) (by decide), hv 2 (by decide) (by decide), hv 3 (by decide) (by decide)]
        have m0' : mCv t1 p (i - p) 0 = s 35 (i - p) := by unfold mCv; rw [if_pos rfl, k1 401 _ (by decide), hTi.2]
        by_cases hp : 0 < p
        · have hq := h.2.2.1 (p - 1) (by lia) (by lia)
          have mx : ∀ x, 1 ≤ x → x < 4 → mCv t1 p (i - p) x = t 395 (3 + 4 * (p - 1) + x) := fun x x0 x3 => by
            unfold mCv; rw [if_neg (by lia), if_pos hp, k5 _ (by lia) (by lia), if_neg (by lia)]
          rw [m0', mx 1 (by decide) (by decide), mx 2 (by decide) (by decide), mx 3 (by decide) (by decide)]
          dsimp only
          rw [if_pos hp]
          exact ⟨rfl, hTi.1, hq.2.2.1, hq.2.2.2⟩
        · have m1' : mCv t1 p (i - p) 1 = 0 := by unfold mCv; rw [if_neg (by decide), if_neg hp, if_neg (by decide)]
          have m2' : mCv t1 p (i - p) 2 = 0 := by unfold mCv; rw [if_neg (by decide), if_neg hp, if_neg (by decide)]
          have m3' : mCv t1 p (i - p) 3 = 4 := by unfold mCv; rw [if_neg (by decide), if_neg hp, if_pos rfl]
          rw [m0', m1', m2', m3']
          dsimp only
          rw [if_neg hp]
          exact ⟨rfl, hTi.1, by decide, ⟨by decide, by decide, by decide⟩⟩
      · rw [if_neg h1, if_neg h2] at x1 x2
        refine leR_c (i := i - m) x1 x2 (fun x x0 x3 => ?_) (h.2.2.1 (i - m) (by lia) (by lia))
        have ar := ar_up p0 p1 m0 m1 hb.1.2 m2 i0 i1 h2 x0 x3
        rw [f2 _ (Or.inr ar.1.1), k5 _ ar.2.1 ar.2.2, if_pos ar.1]
        congr 1; grind
  · rw [r1] at g1
    obtain ⟨q0, q1, q2⟩ := SR_sp h k0 g1
    have g2 : k < 16 := by lia
    have hz : ∀ f, 0 ≤ f → f < 9 → t' 395 (803 + 9 * k + f) = mCs p m 0 t k f := fun f f0 f1' => by
      have rg := sp_rng k0 g2 f0 f1'
      rw [f2 _ (Or.inr (by lia))]; exact k6 k f k0 g1 f0 f1'
    have z0 := hz 0 (by decide) (by decide)
    rw [← z0a] at z0
    have hl : mLv t 0 k = decide (t 395 (803 + 9 * k) = 1) := by unfold mLv; simp
    have hcl : ∀ f, s' (zel 4 k) f = hSpC s (zel 4 k) p m (zel 4 k) f := fun f => c4 k f k0 (by rw [h.2.1.2.1]; exact g1)
    have cl0 : s' (zel 4 k) 0 = s (zel 4 k) 0 := by rw [hcl]; unfold hSpC; rw [zup_i (by decide), zup_i (by decide)]
    have z00 : t' 395 (803 + 9 * k) = t 395 (803 + 9 * k) := by
      rw [z0]; unfold mCs; rw [hl, ← z0a]; split
      · rw [if_neg (by decide), if_neg (by decide)]
      · rfl
    rw [cl0, z00]
    refine ⟨q0, q1, fun q => ?_⟩
    obtain ⟨⟨a1, a2, a3, a4, a5, a6, a7, a8⟩, b1, b2, b3, b4⟩ := q2 q
    have hon : mLv t 0 k = true := by rw [hl]; exact decide_eq_true q
    have y1 : t' 395 (803 + 9 * k + 1) = pOn (t 395 (803 + 9 * k + 1)) (t 395 (803 + 9 * k + 8) &&& 1) p m := by rw [hz 1 (by decide) (by decide)]; unfold mCs; rw [if_pos hon, if_pos rfl]
    have y2 : t' 395 (803 + 9 * k + 2) = pOn (t 395 (803 + 9 * k + 2)) (t 395 (803 + 9 * k + 8) >>> (1 &&& 31)) p m := by rw [hz 2 (by decide) (by decide)]; unfold mCs; rw [if_pos hon, if_neg (by decide), if_pos rfl]
    have yo : ∀ f, 3 ≤ f → f < 9 → t' 395 (803 + 9 * k + f) = t 395 (803 + 9 * k + f) := fun f f0 f1' => by
      rw [hz f (by lia) f1']; unfold mCs; rw [if_pos hon, if_neg (by lia), if_neg (by lia)]
    have w1 : s' (zel 4 k) 1 = pOn (s (zel 4 k) 1) (s (zel 4 k) 8 &&& 1) p m := by rw [hcl]; unfold hSpC; rw [zup_i (by decide), zup_s]
    have w2 : s' (zel 4 k) 2 = pOn (s (zel 4 k) 2) (s (zel 4 k) 8 >>> (1 &&& 31)) p m := by rw [hcl]; unfold hSpC; rw [zup_s]
    have wo : ∀ f, 3 ≤ f → f < 9 → s' (zel 4 k) f = s (zel 4 k) f := fun f f0 f1' => by rw [hcl]; unfold hSpC; rw [zup_i (by lia), zup_i (by lia)]
    unfold spR
    rw [w1, w2, y1, y2, wo 3 (by decide) (by decide), wo 4 (by decide) (by decide), wo 5 (by decide) (by decide), wo 6 (by decide) (by decide), wo 7 (by decide) (by decide), wo 8 (by decide) (by decide), yo 3 (by decide) (by decide), yo 4 (by decide) (by decide), yo 5 (by decide) (by decide), yo 6 (by decide) (by decide), yo 7 (by decide) (by decide), yo 8 (by decide) (by decide), r0, a1, a2, a8]
    exact ⟨⟨rfl, rfl, a3, a4, a5, a6, a7, rfl⟩, ⟨(pOn_rng b1.1 (by lia : _ ≤ t 395 0) (by lia) m1 hb.1.2 m2).1, pOn_lt b1.1 b1.2.1 b1.2.2 (by lia) m1 hb.1.2 m2, (pOn_rng (by lia) b1.2.2 (by lia) m1 hb.1.2 m2).2⟩, b2, b3, b4⟩
  · rw [r2] at g1
    obtain ⟨q0, q1, q2⟩ := SR_an h k0 g1
    have g2 : k < 12 := by lia
    have hz : ∀ f, 0 ≤ f → f < 4 → t' 395 (947 + 4 * k + f) = mCa p m 0 t k f := fun f f0 f1' => by
      have rg := an_rng k0 g2 f0 f1'
      rw [f2 _ (Or.inr (by lia))]; exact k7 k f k0 g1 f0 f1'
    have z0 := hz 0 (by decide) (by decide)
    rw [← z0a] at z0
    have hl : mLa t 0 k = decide (t 395 (947 + 4 * k) = 1) := by unfold mLa; simp
    have hcl : ∀ f, s' (zel 5 k) f = hAnC s (zel 5 k) p m (zel 5 k) f := fun f => c5 k f k0 (by rw [h.2.1.2.2]; exact g1)
    have cl0 : s' (zel 5 k) 0 = s (zel 5 k) 0 := by rw [hcl]; unfold hAnC; rw [zup_i (by decide)]
    have z00 : t' 395 (947 + 4 * k) = t 395 (947 + 4 * k) := by
      rw [z0]; unfold mCa; rw [if_neg (fun q => absurd q.2 (by decide)), ← z0a]
    rw [cl0, z00]
    refine ⟨q0, q1, fun q => ?_⟩
    obtain ⟨a1, a2, a3, b1, b2⟩ := q2 q
    have hon : mLa t 0 k = true := by rw [hl]; exact decide_eq_true q
    have y1 : t' 395 (947 + 4 * k + 1) = pOn (t 395 (947 + 4 * k + 1)) (t 395 (947 + 4 * k + 2)) p m := by rw [hz 1 (by decide) (by decide)]; unfold mCa; rw [if_pos ⟨hon, rfl⟩]
    have yo : ∀ f, 2 ≤ f → f < 4 → t' 395 (947 + 4 * k + f) = t 395 (947 + 4 * k + f) := fun f f0 f1' => by
      rw [hz f (by lia) f1']; unfold mCa; rw [if_neg (fun q => by have := q.2; lia)]
    have w1 : s' (zel 5 k) 1 = pOn (s (zel 5 k) 1) (s (zel 5 k) 2) p m := by rw [hcl]; unfold hAnC; rw [zup_s]
    have wo : ∀ f, 2 ≤ f → f < 4 → s' (zel 5 k) f = s (zel 5 k) f := fun f f0 f1' => by rw [hcl]; unfold hAnC; rw [zup_i (by lia)]
    unfold anR
    rw [w1, y1, wo 2 (by decide) (by decide), wo 3 (by decide) (by decide), yo 2 (by decide) (by decide), yo 3 (by decide) (by decide), r0, a1, a2]
    exact ⟨rfl, rfl, a3, pOn_rng b1 b2 (by lia) m1 hb.1.2 m2⟩
/-- letters go -/
theorem S_go {p q : Int32} (h : SR s 1 (t 395)) (hc : hGo s s' p q) (hk : mTk t t' p q 0) (p0 : 0 ≤ p) (pq : p < q) (q1 : q ≤ t 395 0) : SR s' 1 (t' 395) := by
  have hb := SR_b h
  obtain ⟨⟨c1, c2, c3, c4, c5⟩, c6, c7, c8⟩ := hc
  obtain ⟨k1, k2, k3, k4, k5, k6, k7⟩ := hk
  have e2 := h.2.1.1
  obtain ⟨d, hd⟩ : ∃ d, d = q - p := ⟨_, rfl⟩
  rw [← hd] at c6 c7 c8 k2 k5
  have hq : q = p + d := by lia
  have d0 : 0 < d := by lia
  have d1 : d ≤ 200 := by lia
  refine SR_mk ⟨by rw [k2, c6, e2], by rw [k3, c2]; exact h.2.1.2.1, by rw [k4, c3]; exact h.2.1.2.2⟩ ⟨by rw [k2]; lia, by rw [k3]; exact hb.2.1, by rw [k4]; exact hb.2.2⟩ (fun i i0 i1 => ?_) (fun k k0 g1 => ?_) (fun k k0 g1 => ?_)
  · rw [k2] at i1
    have x1 := c7 i i0 (by lia)
    have x2 := c8 i i0 (by lia)
    unfold lOut at x1 x2
    rw [← hd] at x1 x2
    by_cases h1 : i < p
    · rw [if_pos h1] at x1 x2
      refine leR_c x1 x2 (fun x x0 x3 => ?_) (h.2.2.1 i i0 (by lia))
      rw [k5 _ (by lia) (by lia), if_pos (by lia)]
    · rw [if_neg h1] at x1 x2
      refine leR_c (i := i + d) x1 x2 (fun x x0 x3 => ?_) (h.2.2.1 (i + d) (by lia) (by lia))
      rw [k5 _ (by lia) (by lia), if_neg (by lia)]
      congr 1; grind
  · rw [k3] at g1
    obtain ⟨q0, q1', q2⟩ := SR_sp h k0 g1
    have z0 := k6 k 0 k0 g1 (by decide) (by decide)
    rw [← z0a] at z0
    have hl : mLv t 0 k = decide (t 395 (803 + 9 * k) = 1) := by unfold mLv; simp
    have hcl : ∀ f, s' (zel 4 k) f = hSpG s (zel 4 k) p q (zel 4 k) f := fun f => c4 k f k0 (by rw [h.2.1.2.1]; exact g1)
    have w0 : s' (zel 4 k) 0 = if pBk (s (zel 4 k) 2) p q ≤ pBk (s (zel 4 k) 1) p q then 0 else s (zel 4 k) 0 := by
      rw [hcl]; unfold hSpG; split
      · rw [zup_s]
      · rw [zup_i (by decide), zup_i (by decide)]
    have w1 : s' (zel 4 k) 1 = pBk (s (zel 4 k) 1) p q := by
      rw [hcl]; unfold hSpG; split
      · rw [zup_i (by decide), zup_i (by decide), zup_s]
      · rw [zup_i (by decide), zup_s]
    have w2 : s' (zel 4 k) 2 = pBk (s (zel 4 k) 2) p q := by
      rw [hcl]; unfold hSpG; split
      · rw [zup_i (by decide), zup_s]
      · rw [zup_s]
    have wo : ∀ f, 3 ≤ f → f < 9 → s' (zel 4 k) f = s (zel 4 k) f := fun f f0 f1' => by
      rw [hcl]; unfold hSpG; split
      · rw [zup_i (by lia), zup_i (by lia), zup_i (by lia)]
      · rw [zup_i (by lia), zup_i (by lia)]
    rcases q1' with hoff | hon'
    · have hoff' : ¬ mLv t 0 k = true := by rw [hl, hoff]; decide
      have y0 : t' 395 (803 + 9 * k) = 0 := by rw [z0]; unfold mGs; rw [if_neg hoff', ← z0a]; exact hoff
      rw [w0, y0, q0, hoff]
      exact ⟨by split <;> rfl, Or.inl rfl, fun q => absurd q (by decide)⟩
    · obtain ⟨⟨a1, a2, a3, a4, a5, a6, a7, a8⟩, b1, b2, b3, b4⟩ := q2 hon'
      have hon : mLv t 0 k = true := by rw [hl]; exact decide_eq_true hon'
      have y0 : t' 395 (803 + 9 * k) = if pBk (t 395 (803 + 9 * k + 1)) p q < pBk (t 395 (803 + 9 * k + 2)) p q then 1 else 0 := by rw [z0]; unfold mGs; rw [if_pos hon, if_neg (by decide), if_neg (by decide), if_pos rfl]
      have y1 : t' 395 (803 + 9 * k + 1) = pBk (t 395 (803 + 9 * k + 1)) p q := by rw [k6 k 1 k0 g1 (by decide) (by decide)]; unfold mGs; rw [if_pos hon, if_pos rfl]
      have y2 : t' 395 (803 + 9 * k + 2) = pBk (t 395 (803 + 9 * k + 2)) p q := by rw [k6 k 2 k0 g1 (by decide) (by decide)]; unfold mGs; rw [if_pos hon, if_neg (by decide), if_pos rfl]
      have yo : ∀ f, 3 ≤ f → f < 9 → t' 395 (803 + 9 * k + f) = t 395 (803 + 9 * k + f) := fun f f0 f1' => by
        rw [k6 k f k0 g1 (by lia) f1']; unfold mGs; rw [if_pos hon, if_neg (by lia), if_neg (by lia), if_neg (by lia)]
      rw [w0, y0, a1, a2, q0, hon']
      by_cases hlt : pBk (t 395 (803 + 9 * k + 1)) p q < pBk (t 395 (803 + 9 * k + 2)) p q
      · rw [if_pos hlt, if_neg (by lia)]
        refine ⟨rfl, Or.inr rfl, fun _ => ?_⟩
        unfold spR
        rw [w1, w2, y1, y2, wo 3 (by decide) (by decide), wo 4 (by decide) (by decide), wo 5 (by decide) (by decide), wo 6 (by decide) (by decide), wo 7 (by decide) (by decide), wo 8 (by decide) (by decide), yo 3 (by decide) (by decide), yo 4 (by decide) (by decide), yo 5 (by decide) (by decide), yo 6 (by decide) (by decide), yo 7 (by decide) (by decide), yo 8 (by decide) (by decide), k2, a1, a2]
        rw [hd]
        exact ⟨⟨rfl, rfl, a3, a4, a5, a6, a7, a8⟩, ⟨(pBk_rng b1.1 (by lia) p0 pq q1 hb.1.2).1, hlt, (pBk_rng (by lia) b1.2.2 p0 pq q1 hb.1.2).2⟩, b2, b3, b4⟩
      · rw [if_neg hlt, if_pos (by lia)]
        exact ⟨rfl, Or.inl rfl, fun q => absurd q (by decide)⟩
  · rw [k4] at g1
    obtain ⟨q0, q1', q2⟩ := SR_an h k0 g1
    have z0 := k7 k 0 k0 g1 (by decide) (by decide)
    rw [← z0a] at z0
    have hl : mLa t 0 k = decide (t 395 (947 + 4 * k) = 1) := by unfold mLa; simp
    have hcl : ∀ f, s' (zel 5 k) f = hAnG s (zel 5 k) p q (zel 5 k) f := fun f => c5 k f k0 (by rw [h.2.1.2.2]; exact g1)
    have w0 : s' (zel 5 k) 0 = s (zel 5 k) 0 := by
      rw [hcl]; unfold hAnG; split
      · rw [zup_i (by decide), zup_i (by decide)]
      · rw [zup_i (by decide)]
    have z00 : t' 395 (947 + 4 * k) = t 395 (947 + 4 * k) := by
      rw [z0]; unfold mGa; split
      · rw [if_neg (by decide), if_neg (by decide), ← z0a]
      · rw [← z0a]
    rw [w0, z00]
    refine ⟨q0, q1', fun hz => ?_⟩
    obtain ⟨a1, a2, a3, b1, b2⟩ := q2 hz
    have hon : mLa t 0 k = true := by rw [hl]; exact decide_eq_true hz
    have y1 : t' 395 (947 + 4 * k + 1) = pBk (t 395 (947 + 4 * k + 1)) p q := by rw [k7 k 1 k0 g1 (by decide) (by decide)]; unfold mGa; rw [if_pos hon, if_pos rfl]
    have y2 : t' 395 (947 + 4 * k + 2) = t 395 (947 + 4 * k + 2) := by rw [k7 k 2 k0 g1 (by decide) (by decide)]; unfold mGa; rw [if_pos hon, if_neg (by decide), if_neg (by decide)]
    have y3 : t' 395 (947 + 4 * k + 3) = t 395 (947 + 4 * k + 3) + (if p < t 395 (947 + 4 * k + 1) ∧ t 395 (947 + 4 * k + 1) < q then 1 else 0) := by rw [k7 k 3 k0 g1 (by decide) (by decide)]; unfold mGa; rw [if_pos hon, if_neg (by decide), if_pos rfl]
    have w1 : s' (zel 5 k) 1 = pBk (s (zel 5 k) 1) p q := by
      rw [hcl]; unfold hAnG; split
      · rw [zup_s]
      · rw [zup_s]
    have w2 : s' (zel 5 k) 2 = s (zel 5 k) 2 := by
      rw [hcl]; unfold hAnG; split
      · rw [zup_i (by decide), zup_i (by decide)]
      · rw [zup_i (by decide)]
    have w3 : s' (zel 5 k) 3 = s (zel 5 k) 3 + (if p < s (zel 5 k) 1 ∧ s (zel 5 k) 1 < q then 1 else 0) := by
      rw [hcl]; unfold hAnG
      by_cases hx : p < s (zel 5 k) 1 ∧ s (zel 5 k) 1 < q
      · rw [if_pos hx, if_pos hx, zup_i (by decide), zup_s]
      · rw [if_neg hx, if_neg hx, zup_i (by decide), z0p]
    unfold anR
    rw [w1, w2, w3, y1, y2, y3, k2, a1, a2, a3]
    rw [hd]
    exact ⟨rfl, rfl, rfl, pBk_rng b1 b2 p0 pq q1 hb.1.2⟩
end

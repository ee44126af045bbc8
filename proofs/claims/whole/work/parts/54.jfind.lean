/-! the answers are alike: found, styled, followed, counted -/
theorem xor_all : ∀ a : Fin 16, ∀ g : Fin 16, ∀ m : Fin 16, ((nI a.val ^^^ nI g.val) &&& nI m.val = 0 ↔ nI a.val &&& nI m.val = nI g.val &&& nI m.val) := by decide +kernel
theorem xor_eq {a g m : Int32} (a0 : 0 ≤ a) (a1 : a ≤ 15) (g0 : 0 ≤ g) (g1 : g ≤ 15) (m0 : 0 ≤ m) (m1 : m ≤ 15) : ((a ^^^ g) &&& m = 0 ↔ a &&& m = g &&& m) := by
  obtain ⟨x, rfl⟩ := nIf (n := 16) a0 (by show a < 16; lia) (by decide)
  obtain ⟨y, rfl⟩ := nIf (n := 16) g0 (by show g < 16; lia) (by decide)
  obtain ⟨z, rfl⟩ := nIf (n := 16) m0 (by show m < 16; lia) (by decide)
  exact xor_all x y z
section
variable {s t : zSig}
theorem J_su (h : SR s 1 (t 395)) {i m g c : Int32} (i0 : 0 ≤ i) (i1 : i < t 395 0) (m0 : 0 ≤ m ∧ m ≤ 15) (g0 : 0 ≤ g ∧ g ≤ 15) : fSu (nS s i) m g c ≠ 0 ↔ mSu (mS t (-1) i) m g c := by
  have hr := (SR_style h (but := -1) i0 i1).2
  obtain ⟨f1, f2, -⟩ := nS_f h i0 i1
  unfold fSu mSu
  rw [f1, f2]
  have hx := xor_eq hr.1.1 hr.1.2 g0.1 g0.2 m0.1 m0.2
  by_cases hc : (mS t (-1) i).1 &&& m = g &&& m ∧ (c = -1 ∨ (mS t (-1) i).2.1 = c)
  · rw [if_pos ⟨hx.mpr hc.1, hc.2⟩]; exact ⟨fun _ => hc, fun _ => by decide⟩
  · rw [if_neg (fun q => hc ⟨hx.mp q.1, q.2⟩)]; exact ⟨fun q => absurd rfl q, fun q => absurd q hc⟩
theorem J_fs (h : SR s 1 (t 395)) (ht : RT s t) {T : Int32 → Prop} {f m g c lo hi v v' : Int32} (hT : ∀ p, 0 ≤ p → p ≤ t 395 0 → (T p ↔ (p + s 34 1 ≤ t 395 0 ∧ stdB s m g c lo hi p))) (hc : qFs2 s f m g c lo hi v) (hm : mFs t f T v') : v' = v := by
  have hb := SR_b h
  unfold qFs2 at hc
  unfold mFs at hm
  rw [h.2.1.1] at hc
  rw [ht.2.1] at hm
  have hl := ht.1
  rcases hc with ⟨c1, c2⟩ | ⟨⟨c1, c2⟩, c3, c4⟩ <;> rcases hm with ⟨d1, d2⟩ | ⟨⟨d1, d2⟩, d3, d4⟩
  · rw [c1, d1]
  · exfalso; lia
  · exfalso; lia
  · rcases c4 with ⟨⟨a1, a2⟩, a3, a4, a5⟩ | ⟨a1, a2⟩ <;> rcases d4 with ⟨b1, b2, b3, b4⟩ | ⟨b1, b2⟩
    · have tv := (hT v (by lia) a2).mpr ⟨a3, a4⟩
      by_cases h1 : v < v'
      · exact absurd tv (b4 v a1 h1)
      · by_cases h2 : v' < v
        · exact absurd ((hT v' (by lia) (by lia)).mp b3).2 (a5 v' b1 h2)
        · lia
    · exact absurd ((hT v (by lia) a2).mpr ⟨a3, a4⟩) (b2 v a1 (by lia))
    · have := (hT v' (by lia) (by lia)).mp b3
      exact absurd this.2 (a2 v' b1 (by lia) this.1)
    · rw [a1, b1]
theorem J_mt (h : SR s 1 (t 395)) (ht : RT s t) {p k : Int32} (p0 : 0 ≤ p) (k0 : 0 ≤ k) (k1 : k < s 34 1) (hp : p + s 34 1 ≤ t 395 0) (p1 : p ≤ t 395 0) : mMt t p k ↔ s 2 (p + k) = s 35 k := by
  have hb := SR_b h
  have hl := ht.1
  have hk := ht.2.2 k k0 k1
  have hq := (h.2.2.1 (p + k) (by lia) (by lia)).1
  unfold mMt
  rw [hk.2, (by8 hk.1.1 hk.1.2).1, ← hq]
theorem J_find (h : SR s 1 (t 395)) (ht : RT s t) {f v v' : Int32} (hc : qFs2 s f 0 0 (-1) 0 9 v) (hm : mFs t f (mStd t) v') : v' = v := by
  have hb := SR_b h
  refine J_fs h ht (fun p p0 p1 => ?_) hc hm
  unfold mStd stdB
  rw [ht.2.1]
  have hl := ht.1
  refine ⟨fun q => ⟨q.1, fun k k0 k1 => ?_⟩, fun q => ⟨q.1, fun k k0 k1 => ?_⟩⟩
  · have q1 := q.1
    have hr := (SR_style h (but := -1) (i := p + k) (by lia) (by lia)).2
    have hf := nS_f h (i := p + k) (by lia) (by lia)
    unfold fitB
    refine decide_eq_true ⟨(J_mt h ht p0 k0 k1 q1 p1).mp (q.2 k k0 k1), ?_, ?_, ?_⟩
    · unfold fSu; rw [if_pos ⟨by simp, Or.inl rfl⟩]; decide
    · rw [hf.2.2]; exact hr.2.2.1
    · rw [hf.2.2]; exact hr.2.2.2
  · have q1 := q.1
    have := q.2 k k0 k1
    unfold fitB at this
    exact (J_mt h ht p0 k0 k1 q1 p1).mpr (of_decide_eq_true this).1
theorem J_findBy (h : SR s 1 (t 395)) (ht : RT s t) {f m g c lo hi v v' : Int32} (m0 : 0 ≤ m ∧ m ≤ 15) (g0 : 0 ≤ g ∧ g ≤ 15) (hc : qFs2 s f m g c lo hi v) (hm : mFs t f (mFy t m g c lo hi) v') : v' = v := by
  have hb := SR_b h
  refine J_fs h ht (fun p p0 p1 => ?_) hc hm
  unfold mFy mStd stdB mFt
  rw [ht.2.1]
  have hl := ht.1
  refine ⟨fun q => ⟨q.1.1, fun k k0 k1 => ?_⟩, fun q => ⟨⟨q.1, fun k k0 k1 => ?_⟩, fun k k0 k1 => ?_⟩⟩
  · have q1 := q.1.1
    have hf := nS_f h (i := p + k) (by lia) (by lia)
    have q2 := q.2 k k0 k1
    unfold fitB
    refine decide_eq_true ⟨(J_mt h ht p0 k0 k1 q1 p1).mp (q.1.2 k k0 k1), (J_su h (by lia) (by lia) m0 g0).mpr q2.1, ?_, ?_⟩
    · rw [hf.2.2]; exact q2.2.1
    · rw [hf.2.2]; exact q2.2.2
  · have q1 := q.1
    have := q.2 k k0 k1
    unfold fitB at this
    exact (J_mt h ht p0 k0 k1 q1 p1).mpr (of_decide_eq_true this).1
  · have q1 := q.1
    have hf := nS_f h (i := p + k) (by lia) (by lia)
    have := q.2 k k0 k1
    unfold fitB at this
    have := of_decide_eq_true this
    rw [hf.2.2] at this
    exact ⟨(J_su h (by lia) (by lia) m0 g0).mp this.2.1, this.2.2⟩
theorem J_styled (h : SR s 1 (t 395)) {f m g c w v v' : Int32} (f0 : 0 ≤ f) (m0 : 0 ≤ m ∧ m ≤ 15) (g0 : 0 ≤ g ∧ g ≤ 15) (w0 : 0 ≤ w ∧ w ≤ 2) (hc : qSy2 s f m g c w v) (hm : mYd2 (mSo t m g c) f (t 395 0) w v') : v' = v := by
  have hb := SR_b h
  unfold qSy2 at hc
  rw [h.2.1.1] at hc
  have eT : ∀ i, f ≤ i → i < t 395 0 → (suB s m g c i ↔ mSo t m g c i) := fun i i0 i1 => J_su h (by lia) i1 m0 g0
  rcases hc with ⟨c1, c2⟩ | ⟨a, ⟨a0, a1, a2, a3⟩, c0, c1, c2⟩ <;> rcases hm with ⟨d1, d2⟩ | ⟨b, ⟨b0, b1, b2, b3⟩, d0, d1, d2⟩
  · rw [c1, d1]
  · exact absurd ((eT b b0 b1).mpr b2) (c2 b b0 b1)
  · exact absurd ((eT a a0 a1).mp a2) (d2 a a0 a1)
  · have hab : a = b := by
      by_cases h1 : a < b
      · exact absurd ((eT a a0 a1).mp a2) (b3 a a0 h1)
      · by_cases h2 : b < a
        · exact absurd ((eT b b0 b1).mpr b2) (a3 b b0 h2)
        · lia
    subst hab
    rcases (by lia : w = 0 ∨ w = 1 ∨ w = 2) with k | k | k
    · rw [c0 k, d0 k]
    · obtain ⟨⟨p1, p2⟩, p3, p4, p5⟩ := c1 k
      obtain ⟨⟨q1, q2⟩, q3, q4, q5⟩ := d1 k
      by_cases h1 : v < v'
      · exfalso
        have x := q4 (a + v) (by lia) (by lia)
        rcases p5 with p5 | p5
        · lia
        · exact p5 ((eT (a + v) (by lia) (by lia)).mpr x)
      · by_cases h2 : v' < v
        · exfalso
          have x := p4 (a + v') (by lia) (by lia)
          rcases q5 with q5 | q5
          · lia
          · exact q5 ((eT (a + v') (by lia) (by lia)).mp x)
        · lia
    · obtain ⟨F, e1, e2⟩ := d2 k
      rw [c2 k, e1]
      refine zit_congr hb.1.1 (fun i x i0 i1 => ?_)
      unfold nSu
      by_cases hi : a ≤ i
      · rw [if_pos hi]
        rcases e2 i hi i1 with ⟨g1, g2⟩ | ⟨g1, g2⟩
        · rw [g1, if_pos ⟨by lia, (eT i (by lia) i1).mpr g2⟩]
        · rw [g1, if_neg (fun q => g2 ((eT i (by lia) i1).mp q.2)), z0p]
      · rw [if_neg hi, if_neg (fun q => a3 i q.1 (by lia) q.2)]
theorem J_act {a : Nat} {k x l : Int32} (h : RA s t a k) : mBh t k x l = fAct s a x l := by
  obtain ⟨e0, k0, k1, k2, k12⟩ := h
  unfold mBh fAct
  rw [← e0]
  by_cases h0 : s a 0 = 0
  · rw [if_pos h0, if_pos h0, ← (k0 h0).1, ← (k0 h0).2]
  · rw [if_neg h0, if_neg h0]
    by_cases h1 : s a 0 = 1
    · rw [if_pos h1, if_pos h1, ← (k1 h1).1, ← (k1 h1).2]
    · rw [if_neg h1, if_neg h1]
      by_cases h2 : s a 0 = 2
      · obtain ⟨b1, b2, b3⟩ := k2 h2
        rw [if_pos h2, if_pos h2, b3, ← b1, ← b2]
        unfold pMv pLb
        by_cases hx : s a 1 < x ∧ x < s a 2
        · rw [if_pos hx, if_pos hx]; grind
        · rw [if_neg hx, if_neg hx]
      · rw [if_neg h2, if_neg h2]
        by_cases h12 : s a 0 = 12
        · obtain ⟨b1, b2, b3, b4, b5, b6⟩ := k12 h12
          rw [if_pos h12, if_pos h12, ← b1, ← b2, ← b3]
          unfold pSw
          by_cases hx : 1 < s a 2 - s a 1
          · rw [if_pos hx, show s a 2 + s a 3 - 1 = s a 2 - 1 + s a 3 by grind]
          · rw [if_neg hx, show s a 2 - 1 + s a 3 = s a 1 + s a 3 by rw [show s a 2 = s a 1 + 1 by lia]; grind]
            generalize pBk (pOn x l (s a 1 + 1) (s a 3)) (s a 1) (s a 1 + 1) = y
            generalize s a 1 + s a 3 = p
            unfold pBk
            by_cases hy : p ≤ y
            · rw [if_pos hy]; grind
            · rw [if_neg hy, if_pos (by lia)]
        · rw [if_neg h12, if_neg h12]
theorem J_through (h : RH s t) {x l n : Int32} : (if (1 ≤ n ∧ n ≤ t 393 6) ∧ 0 ≤ l ∧ l ≤ 1 then mTh t x l n else -1) = (if (1 ≤ n ∧ n ≤ s 36 3) ∧ 0 ≤ l ∧ l ≤ 1 then qTh s x l n else -1) := by
  obtain ⟨⟨n0, n1⟩, ⟨k0, k1⟩, e6, hh⟩ := h
  rw [e6]
  by_cases hc : (1 ≤ n ∧ n ≤ s 36 3) ∧ 0 ≤ l ∧ l ≤ 1
  · rw [if_pos hc, if_pos hc]
    unfold mTh qTh
    have hs := (hh n hc.1.1 hc.1.2).1.2.1.1
    have hs : s (zel 37 (hL s n)) 2 = t 396 (995 * (t 393 6 - n)) := by rw [hs]; show t 396 (995 * (t 393 6 - n) + 0) = _; rw [z0p]
    rw [← hs]
    have e : zit (mth1 t l n) (x, 0) n = zit (th1 s l n) (x, 0) n := by
      refine zit_congr (by lia) (fun m p m0 m1 => ?_)
      have ha := (hh (n - m) (by lia) (by lia)).2
      rw [show t 393 6 - (n - m) = t 393 6 - n + m by grind] at ha
      unfold mth1 th1
      rw [J_act ha, ← ha.1]
    rw [e]
  · rw [if_neg hc, if_neg hc]
/-- counts -/
theorem J_spans (h : SR s 1 (t 395)) : zit (mNs t) 0 (t 395 1) = zit (nSp s) 0 (s 1 4) := by
  have hb := SR_b h
  rw [h.2.1.2.1]
  refine zit_congr hb.2.1.1 (fun k x k0 k1 => ?_)
  unfold mNs nSp
  obtain ⟨e, e2, -⟩ := SR_sp h k0 k1
  rw [e]
  rcases e2 with q | q
  · rw [q, if_pos rfl]; grind
  · rw [q, if_neg (by decide)]
theorem J_anchors (h : SR s 1 (t 395)) : zit (mOa t 0) 0 (t 395 2) = zit (nAn s) 0 (s 1 6) := by
  have hb := SR_b h
  rw [h.2.1.2.2]
  refine zit_congr hb.2.2.1 (fun k x k0 k1 => ?_)
  unfold mOa nAn
  obtain ⟨e, e2, -⟩ := SR_an h k0 k1
  rw [e, ← z0a]
  rcases e2 with q | q
  · rw [q, if_neg (by decide), if_pos rfl]; grind
  · rw [q, if_pos rfl, if_neg (by decide)]
theorem J_lost (h : SR s 1 (t 395)) : zit (mOa t 3) 0 (t 395 2) = zit (nLo s) 0 (s 1 6) := by
  have hb := SR_b h
  rw [h.2.1.2.2]
  refine zit_congr hb.2.2.1 (fun k x k0 k1 => ?_)
  unfold mOa nLo
  obtain ⟨e, e2, e3⟩ := SR_an h k0 k1
  rw [e]
  rcases e2 with q | q
  · rw [q, if_neg (by decide), if_pos rfl]; grind
  · rw [(e3 q).2.2.1, q, if_pos rfl, if_neg (by decide)]
theorem J_most (h : SR s 1 (t 395)) : zit (mMo t) 0 (t 395 0) = zit (nMo s) 0 (s 1 2) := by
  have hb := SR_b h
  rw [h.2.1.1]
  refine zit_congr hb.1.1 (fun i x i0 i1 => ?_)
  unfold mMo nMo
  congr 1
  rw [h.2.1.2.1]
  refine zit_congr hb.2.1.1 (fun k y k0 k1 => ?_)
  unfold mOv nOv
  have hs := SR_st h k0 k1
  by_cases hz : t 395 (803 + 9 * k) = 1
  · obtain ⟨⟨a1, a2, -⟩, -⟩ := (SR_sp h k0 k1).2.2 hz
    rw [a1, a2]
    by_cases hc : t 395 (803 + 9 * k + 1) ≤ i ∧ i < t 395 (803 + 9 * k + 2)
    · rw [if_pos ⟨hz, hc⟩, if_pos ⟨hs.mpr hz, hc⟩]
    · rw [if_neg (fun q => hc q.2), if_neg (fun q => hc q.2)]
  · rw [if_neg (fun q => hz q.1), if_neg (fun q => hz (hs.mp q.1))]
theorem qLr_u {S T : Int32 → Int32} {n v v' : Int32} (n1 : n ≤ 200) (n0 : 0 ≤ n) (hT : ∀ j, 0 ≤ j → j < n → T j = S j) (hc : qLr T n v) (hm : qLr S n v') : v' = v := by
  have el : ∀ j, 0 ≤ j → j ≤ n → zit (rL T) (0, 0) j = zit (rL S) (0, 0) j := fun j j0 j1 => rL_congr hT j0 j1
  have en : ∀ j, 0 ≤ j → j ≤ n → zit (rN T) (-1) j = zit (rN S) (-1) j := fun j j0 j1 => rN_congr hT j0 j1
  unfold qLr at hc
  rw [el n n0 (Int32.le_refl _)] at hc
  rcases hc with ⟨i, i0, i1, i2, i3, i4⟩ | ⟨c1, c2⟩ <;> rcases hm with ⟨k, k0, k1, k2, k3, k4⟩ | ⟨d1, d2⟩
  · rw [el (i + 1) (by lia) (by lia)] at i3
    have : i = k := by
      by_cases h1 : i < k
      · exact absurd i3 (k4 i i0 h1)
      · by_cases h2 : k < i
        · have := i4 k k0 h2
          rw [el (k + 1) (by lia) (by lia)] at this
          exact absurd k3 this
        · lia
    subst this
    rw [i2, k2, en (i + 1) (by lia) (by lia)]
  · rw [el (i + 1) (by lia) (by lia)] at i3
    exact absurd i3 (d2 i i0 i1)
  · have := c2 k k0 k1
    rw [el (k + 1) (by lia) (by lia)] at this
    exact absurd k3 this
  · rw [c1, d1]
theorem J_count (h : R2 s t) {w v v' : Int32} (hW : ∀ sg0, hLk s sg0 → wAll sg0 322 1 = mWall t 393 27) (hc : qCt s w v) (hm : mCt t w v') : v' = v := by
  have h1 := h.1.1
  have hb := SR_b h1
  have hn : ∀ j, 0 ≤ j → j < t 395 0 → nS s j = mSy t (-1) j := fun j j0 j1 => nS_m h1 j0 j1
  obtain ⟨c0, c1, c2, c3, c4, c5, c6, c7, c8, c9, c10, c11, c12, c13, c14, c15, c16, c17, c18, c19⟩ := hc
  obtain ⟨d0, d1, d2, d3, d4, d5, d6, d7, d8, d9, d10, d11, d12, d13, d14, d15, d16, d17, d18, d19⟩ := hm
  rw [h1.2.1.1] at c0 c1 c6 c7 c8
  by_cases hw : 0 ≤ w ∧ w ≤ 18
  · rcases (by lia : w = 0 ∨ w = 1 ∨ w = 2 ∨ w = 3 ∨ w = 4 ∨ w = 5 ∨ w = 6 ∨ w = 7 ∨ w = 8 ∨ w = 9 ∨ w = 10 ∨ w = 11 ∨ w = 12 ∨ w = 13 ∨ w = 14 ∨ w = 15 ∨ w = 16 ∨ w = 17 ∨ w = 18) with q | q | q | q | q | q | q | q | q | q | q | q | q | q | q | q | q | q | q
    · rw [c0 q, d0 q]
    · rw [c1 q, d1 q]; exact (rN_congr hn hb.1.1 (Int32.le_refl _)).symm
    · rw [c2 q, d2 q]; exact J_spans h1
    · rw [c3 q, d3 q]; exact J_anchors h1
    · rw [c4 q, d4 q]; exact h1.2.1.2.1.symm
    · rw [c5 q, d5 q]; exact h1.2.1.2.2.symm
    · rw [c6 q, d6 q, rL_congr hn hb.1.1 (Int32.le_refl _)]
    · obtain ⟨T, hT, hq⟩ := c7 q
      exact qLr_u hb.1.2 hb.1.1 (fun j j0 j1 => by rw [hT j j0 j1]; exact hn j j0 j1) hq (d7 q)
    · rw [c8 q, d8 q]; exact (uN_congr hn hb.1.1 (Int32.le_refl _)).symm
    · rw [c9 q, d9 q]; exact J_most h1
    · rw [c10 q, d10 q]; exact J_lost h1
    · obtain ⟨sg0, hl, e⟩ := c11 q
      rw [d11 q, e, hW sg0 hl]
    · rw [c12 q, d12 q]; exact h.1.2.1.2.2.1
    · rw [c13 q, d13 q]; exact h.2.1.2.1
    · rw [c14 q, d14 q]; exact (h.2.2.1.2.1 1 (by decide) (by decide)).symm
    · rw [c15 q, d15 q]; exact (h.2.2.1.2.1 2 (by decide) (by decide)).symm
    · rw [c16 q, d16 q]; exact (h.2.2.1.2.1 4 (by decide) (by decide)).symm
    · rw [c17 q, d17 q]; exact (h.2.2.1.2.1 5 (by decide) (by decide)).symm
    · rw [c18 q, d18 q]; exact (h.2.2.1.2.1 6 (by decide) (by decide)).symm
  · rw [c19 hw, d19 hw]
end

/-! the sheet and the row when letters move -/
section
variable {s s' t t1 t2 t3 t4 t5 : zSig}
set_option maxHeartbeats 16000000 in
theorem S_move_sp {f u r th d k : Int32} (h : SR s 1 (t 395)) (eth : th = pLd f u r) (ed : d = u - f) (hu : u = f + d) (d0 : 0 < d) (d2 : d ≤ 200) (f200 : f ≤ 200) (f0 : 0 ≤ f) (fu : f < u) (un : u ≤ t 395 0) (th0 : 0 ≤ th) (th1 : th + d ≤ t 395 0) (th2 : th ≤ 200) (row : ∀ j, mNo t2 f u th 395 j = t 395 j) (z0 : t5 395 0 = t 395 0) (s402 : ∀ k, t3 402 k = t2 402 k) (u402 : ∀ k, t4 402 k = t2 402 k) (k0 : 0 ≤ k) (kk : k < t 395 1) (hcl : ∀ g, s' (zel 4 k) g = hSpMs s (zel 4 k) f u r (zel 4 k) g) (v3 : ∀ g, 0 ≤ g → g < 9 → t3 395 (803 + 9 * k + g) = mGs f u 1 (mNo t2 f u th) k g) (v4 : ∀ g, 0 ≤ g → g < 9 → t4 395 (803 + 9 * k + g) = mCs th d 1 t3 k g) (v5 : ∀ g, 0 ≤ g → g < 9 → t5 395 (803 + 9 * k + g) = mShs (th - f) t4 k g) (h402 : t2 402 k = if mGo t f u k = true then 1 else 0) : s' (zel 4 k) 0 = t5 395 (803 + 9 * k) ∧ (t5 395 (803 + 9 * k) = 0 ∨ t5 395 (803 + 9 * k) = 1) ∧ (t5 395 (803 + 9 * k) = 1 → spR s' (zel 4 k) (t5 395) (803 + 9 * k) (t5 395 0)) := by
  have hb := SR_b h
  obtain ⟨p0, p1, p2⟩ := SR_sp h k0 kk
  have hl : mLv (mNo t2 f u th) 1 k = decide (t 395 (803 + 9 * k) = 1 ∧ t2 402 k = 0) := by
    unfold mLv; rw [row, mNo_f (by decide)]; simp
  have w0' : ∀ A : Int32, A + 0 = A := fun A => z0p A
  rw [z0]
  by_cases hst : t 395 (803 + 9 * k) = 1
  · obtain ⟨⟨a1, a2, a3, a4, a5, a6, a7, a8⟩, b1, b2, b3, b4⟩ := p2 hst
    have hs0 : ¬ s (zel 4 k) 0 = 0 := by lia
    by_cases hgo : f ≤ t 395 (803 + 9 * k + 1) ∧ t 395 (803 + 9 * k + 2) ≤ u
    · have hmg : mGo t f u k = true := by unfold mGo; exact decide_eq_true ⟨⟨⟨k0, kk⟩, hst⟩, hgo⟩
      rw [hmg, if_pos rfl] at h402
      have y3 : ∀ g, 0 ≤ g → g < 9 → t3 395 (803 + 9 * k + g) = t 395 (803 + 9 * k + g) := fun g a b => by
        rw [v3 g a b]; unfold mGs; rw [hl, h402, if_neg (by simp), row]
      have hl3 : mLv t3 1 k = false := by unfold mLv; rw [s402, h402]; simp
      have y4 : ∀ g, 0 ≤ g → g < 9 → t4 395 (803 + 9 * k + g) = t 395 (803 + 9 * k + g) := fun g a b => by
        rw [v4 g a b]; unfold mCs; rw [hl3, if_neg (by decide)]; exact y3 g a b
      have y5 : ∀ g, 0 ≤ g → g < 9 → t5 395 (803 + 9 * k + g) = if g = 1 then t 395 (803 + 9 * k + 1) + (th - f) else if g = 2 then t 395 (803 + 9 * k + 2) + (th - f) else t 395 (803 + 9 * k + g) := fun g a b => by
        rw [v5 g a b]; unfold mShs; rw [u402, h402, if_neg (by decide), y4 1 (by decide) (by decide), y4 2 (by decide) (by decide), y4 g a b]
      have y50 := y5 0 (by decide) (by decide)
      rw [w0', if_neg (by decide), if_neg (by decide)] at y50
      have hc' : ∀ g, s' (zel 4 k) g = if g = 2 then s (zel 4 k) 2 + (th - f) else if g = 1 then s (zel 4 k) 1 + (th - f) else s (zel 4 k) g := fun g => by
        rw [hcl]; unfold hSpMs; rw [if_neg hs0]; unfold hSpM; rw [if_pos ⟨by rw [a1]; exact hgo.1, by rw [a2]; exact hgo.2⟩, ← eth, zup_e, zup_e]; simp only [true_and]
      rw [y50, hc' 0, if_neg (by decide), if_neg (by decide)]
      refine ⟨p0, p1, fun _ => ?_⟩
      unfold spR
      have ho : ∀ g, 3 ≤ g → s' (zel 4 k) g = s (zel 4 k) g := fun g a => by rw [hc' g, if_neg (by lia), if_neg (by lia)]
      have yo : ∀ g, 3 ≤ g → g < 9 → t5 395 (803 + 9 * k + g) = t 395 (803 + 9 * k + g) := fun g a b => by rw [y5 g (by lia) b, if_neg (by lia), if_neg (by lia)]
      have x1 : s' (zel 4 k) 1 = s (zel 4 k) 1 + (th - f) := by rw [hc' 1, if_neg (by decide), if_pos rfl]
      have x2 : s' (zel 4 k) 2 = s (zel 4 k) 2 + (th - f) := by rw [hc' 2, if_pos rfl]
      have w1 : t5 395 (803 + 9 * k + 1) = t 395 (803 + 9 * k + 1) + (th - f) := by rw [y5 1 (by decide) (by decide), if_pos rfl]
      have w2 : t5 395 (803 + 9 * k + 2) = t 395 (803 + 9 * k + 2) + (th - f) := by rw [y5 2 (by decide) (by decide), if_neg (by decide), if_pos rfl]
      rw [x1, x2, w1, w2, ho 3 (by decide), ho 4 (by decide), ho 5 (by decide), ho 6 (by decide), ho 7 (by decide), ho 8 (by decide), yo 3 (by decide) (by decide), yo 4 (by decide) (by decide), yo 5 (by decide) (by decide), yo 6 (by decide) (by decide), yo 7 (by decide) (by decide), yo 8 (by decide) (by decide)]
      refine ⟨⟨by rw [a1], by rw [a2], a3, a4, a5, a6, a7, a8⟩, ?_, b2, b3, b4⟩
      exact ar_go b1.1 b1.2.1 b1.2.2 hgo.1 hgo.2 th0 th1 th2 hu f0 f200 d0 d2 hb.1.2
    · have hmg : ¬ mGo t f u k = true := by unfold mGo; exact fun q => hgo (of_decide_eq_true q).2
      rw [if_neg hmg] at h402
      have hon : mLv (mNo t2 f u th) 1 k = true := by rw [hl]; exact decide_eq_true ⟨hst, h402⟩
      have hlt := pBk_lt b1.1 b1.2.1 b1.2.2 f0 fu un hb.1.2 hgo
      have y3 : ∀ g, 0 ≤ g → g < 9 → t3 395 (803 + 9 * k + g) = if g = 1 then pBk (t 395 (803 + 9 * k + 1)) f u else if g = 2 then pBk (t 395 (803 + 9 * k + 2)) f u else if g = 0 then 1 else t 395 (803 + 9 * k + g) := fun g a b => by
        rw [v3 g a b]; unfold mGs; rw [if_pos hon, row, row, row, if_pos hlt]
      have y30 := y3 0 (by decide) (by decide)
      rw [w0', if_neg (by decide), if_neg (by decide), if_pos rfl] at y30
      have y31 : t3 395 (803 + 9 * k + 1) = pBk (t 395 (803 + 9 * k + 1)) f u := by rw [y3 1 (by decide) (by decide), if_pos rfl]
      have y32 : t3 395 (803 + 9 * k + 2) = pBk (t 395 (803 + 9 * k + 2)) f u := by rw [y3 2 (by decide) (by decide), if_neg (by decide), if_pos rfl]
      have y38 : t3 395 (803 + 9 * k + 8) = t 395 (803 + 9 * k + 8) := by rw [y3 8 (by decide) (by decide), if_neg (by decide), if_neg (by decide), if_neg (by decide)]
      have hl3 : mLv t3 1 k = true := by unfold mLv; rw [s402, h402, y30]; simp
      have y4 : ∀ g, 0 ≤ g → g < 9 → t4 395 (803 + 9 * k + g) = if g = 1 then pOn (pBk (t 395 (803 + 9 * k + 1)) f u) (t 395 (803 + 9 * k + 8) &&& 1) th d else if g = 2 then pOn (pBk (t 395 (803 + 9 * k + 2)) f u) (t 395 (803 + 9 * k + 8) >>> (1 &&& 31)) th d else t3 395 (803 + 9 * k + g) := fun g a b => by
        rw [v4 g a b]; unfold mCs; rw [if_pos hl3, y31, y32, y38]
      have y5 : ∀ g, 0 ≤ g → g < 9 → t5 395 (803 + 9 * k + g) = t4 395 (803 + 9 * k + g) := fun g a b => by
        rw [v5 g a b]; unfold mShs; rw [u402, h402, if_pos rfl]
      have y50 := y5 0 (by decide) (by decide)
      have y40 := y4 0 (by decide) (by decide)
      rw [w0'] at y50 y40
      rw [if_neg (by decide), if_neg (by decide), y30] at y40
      rw [y40] at y50
      have yo : ∀ g, 3 ≤ g → g < 9 → t5 395 (803 + 9 * k + g) = t 395 (803 + 9 * k + g) := fun g a b => by
        rw [y5 g (by lia) b, y4 g (by lia) b, if_neg (by lia), if_neg (by lia), y3 g (by lia) b, if_neg (by lia), if_neg (by lia), if_neg (by lia)]
      have y51 : t5 395 (803 + 9 * k + 1) = pOn (pBk (t 395 (803 + 9 * k + 1)) f u) (t 395 (803 + 9 * k + 8) &&& 1) th d := by rw [y5 1 (by decide) (by decide), y4 1 (by decide) (by decide), if_pos rfl]
      have y52 : t5 395 (803 + 9 * k + 2) = pOn (pBk (t 395 (803 + 9 * k + 2)) f u) (t 395 (803 + 9 * k + 8) >>> (1 &&& 31)) th d := by rw [y5 2 (by decide) (by decide), y4 2 (by decide) (by decide), if_neg (by decide), if_pos rfl]
      have hc' : ∀ g, s' (zel 4 k) g = if g = 2 then pLb (s (zel 4 k) 2) (s (zel 4 k) 8 >>> (1 &&& 31)) f u r else if g = 1 then pLb (s (zel 4 k) 1) (s (zel 4 k) 8 &&& 1) f u r else s (zel 4 k) g := fun g => by
        rw [hcl]; unfold hSpMs; rw [if_neg hs0]; unfold hSpM; rw [if_neg (by rw [a1, a2]; exact hgo), zup_e, zup_e]; simp only [true_and]
      rw [y50, hc' 0, if_neg (by decide), if_neg (by decide)]
      refine ⟨by rw [p0]; exact hst, Or.inr rfl, fun _ => ?_⟩
      unfold spR
      have ho : ∀ g, 3 ≤ g → s' (zel 4 k) g = s (zel 4 k) g := fun g a => by rw [hc' g, if_neg (by lia), if_neg (by lia)]
      have x1 : s' (zel 4 k) 1 = pLb (s (zel 4 k) 1) (s (zel 4 k) 8 &&& 1) f u r := by rw [hc' 1, if_neg (by decide), if_pos rfl]
      have x2 : s' (zel 4 k) 2 = pLb (s (zel 4 k) 2) (s (zel 4 k) 8 >>> (1 &&& 31)) f u r := by rw [hc' 2, if_pos rfl]
      rw [x1, x2, ho 3 (by decide), ho 4 (by decide), ho 5 (by decide), ho 6 (by decide), ho 7 (by decide), ho 8 (by decide), y51, y52, yo 3 (by decide) (by decide), yo 4 (by decide) (by decide), yo 5 (by decide) (by decide), yo 6 (by decide) (by decide), yo 7 (by decide) (by decide), yo 8 (by decide) (by decide)]
      have r1' := pBk_rng b1.1 (Int32.le_trans (Int32.le_of_lt b1.2.1) b1.2.2) f0 fu un hb.1.2
      have r2' := pBk_rng (Int32.le_trans b1.1 (Int32.le_of_lt b1.2.1)) b1.2.2 f0 fu un hb.1.2
      rw [← ed] at r1' r2'
      have n' : t 395 0 - d + d = t 395 0 := by grind
      have hn := hb.1.2
      have dn : d ≤ t 395 0 := by lia
      have hnd : t 395 0 - d + d ≤ 200 := by rw [n']; exact hn
      have hnd2 : t 395 0 - d ≤ 200 := by lia
      refine ⟨⟨?_, ?_, a3, a4, a5, a6, a7, a8⟩, ⟨?_, ?_, ?_⟩, b2, b3, b4⟩
      · unfold pLb; rw [a1, a8, ← eth, ← ed]
      · unfold pLb; rw [a2, a8, ← eth, ← ed]
      · exact (pOn_rng r1'.1 r1'.2 (Int32.le_of_lt d0) hnd hnd2 d2).1
      · exact pOn_lt r1'.1 hlt r2'.2 (Int32.le_of_lt d0) hnd hnd2 d2
      · have := (pOn_rng (l := t 395 (803 + 9 * k + 8) >>> (1 &&& 31)) (p := th) r2'.1 r2'.2 (Int32.le_of_lt d0) hnd hnd2 d2).2
        rw [n'] at this; exact this
  · have hs0 : s (zel 4 k) 0 = 0 := by lia
    have hmg : ¬ mGo t f u k = true := by unfold mGo; exact fun q => hst (of_decide_eq_true q).1.2
    rw [if_neg hmg] at h402
    have hoff : ¬ mLv (mNo t2 f u th) 1 k = true := by rw [hl]; exact fun q => hst (of_decide_eq_true q).1
    have y30 : t3 395 (803 + 9 * k) = t 395 (803 + 9 * k) := by
      have := v3 0 (by decide) (by decide)
      rw [w0'] at this
      rw [this]; unfold mGs; rw [if_neg hoff, w0', row]
    have hl3 : ¬ mLv t3 1 k = true := by unfold mLv; rw [y30]; exact fun q => hst (of_decide_eq_true q).1
    have y40 : t4 395 (803 + 9 * k) = t 395 (803 + 9 * k) := by
      have := v4 0 (by decide) (by decide)
      rw [w0'] at this
      rw [this]; unfold mCs; rw [if_neg hl3, w0', y30]
    have y50 : t5 395 (803 + 9 * k) = t 395 (803 + 9 * k) := by
      have := v5 0 (by decide) (by decide)
      rw [w0'] at this
      rw [this]; unfold mShs; rw [u402, h402, if_pos rfl, w0', y40]
    have hc0 : s' (zel 4 k) 0 = s (zel 4 k) 0 := by rw [hcl]; unfold hSpMs; rw [if_pos hs0]
    rw [y50, hc0]
    exact ⟨p0, p1, fun q => absurd q hst⟩
set_option maxHeartbeats 16000000 in
theorem S_move_an {f u r th d k : Int32} (h : SR s 1 (t 395)) (eth : th = pLd f u r) (ed : d = u - f) (hu : u = f + d) (d0 : 0 < d) (d2 : d ≤ 200) (f200 : f ≤ 200) (f0 : 0 ≤ f) (fu : f < u) (un : u ≤ t 395 0) (th0 : 0 ≤ th) (th1 : th + d ≤ t 395 0) (th2 : th ≤ 200) (row : ∀ j, mNo t2 f u th 395 j = t 395 j) (z0 : t5 395 0 = t 395 0) (s403 : ∀ k, t3 403 k = t2 403 k) (u403 : ∀ k, t4 403 k = t2 403 k) (k0 : 0 ≤ k) (kk : k < t 395 2) (hcl : ∀ g, s' (zel 5 k) g = hAnM s (zel 5 k) f u r (zel 5 k) g) (v3 : ∀ g, 0 ≤ g → g < 4 → t3 395 (947 + 4 * k + g) = mGa f u 1 (mNo t2 f u th) k g) (v4 : ∀ g, 0 ≤ g → g < 4 → t4 395 (947 + 4 * k + g) = mCa th d 1 t3 k g) (v5 : ∀ g, 0 ≤ g → g < 4 → t5 395 (947 + 4 * k + g) = mSha (th - f) t4 k g) (h403 : t2 403 k = if mGoA t f u k = true then 1 else 0) : s' (zel 5 k) 0 = t5 395 (947 + 4 * k) ∧ (t5 395 (947 + 4 * k) = 0 ∨ t5 395 (947 + 4 * k) = 1) ∧ (t5 395 (947 + 4 * k) = 1 → anR s' (zel 5 k) (t5 395) (947 + 4 * k) (t5 395 0)) := by
  have hb := SR_b h
  obtain ⟨p0, p1, p2⟩ := SR_an h k0 kk
  have hc' : ∀ g, s' (zel 5 k) g = if g = 1 then pMv (s (zel 5 k) 1) (s (zel 5 k) 2) f u r else s (zel 5 k) g := fun g => by
    rw [hcl]; unfold hAnM; rw [zup_e]; simp only [true_and]
  have hl : mLa (mNo t2 f u th) 1 k = decide (t 395 (947 + 4 * k) = 1 ∧ t2 403 k = 0) := by
    unfold mLa; rw [row, mNo_f (by decide)]; simp
  have w0' : ∀ A : Int32, A + 0 = A := fun A => z0p A
  have y30 : t3 395 (947 + 4 * k) = t 395 (947 + 4 * k) := by
    have := v3 0 (by decide) (by decide)
    rw [w0'] at this
    rw [this]; unfold mGa; split
    · rw [if_neg (by decide), if_neg (by decide), w0', row]
    · rw [w0', row]
  have y40 : t4 395 (947 + 4 * k) = t 395 (947 + 4 * k) := by
    have := v4 0 (by decide) (by decide)
    rw [w0'] at this
    rw [this]; unfold mCa; rw [if_neg (fun q => absurd q.2 (by decide)), w0', y30]
  have y50 : t5 395 (947 + 4 * k) = t 395 (947 + 4 * k) := by
    have := v5 0 (by decide) (by decide)
    rw [w0'] at this
    rw [this]; unfold mSha; rw [if_neg (by decide), w0', y40]
  rw [z0, y50, hc' 0, if_neg (by decide)]
  refine ⟨p0, p1, fun hst => ?_⟩
  obtain ⟨a1, a2, a3, b1, b2⟩ := p2 hst
  have hn := hb.1.2
  by_cases hgo : f < t 395 (947 + 4 * k + 1) ∧ t 395 (947 + 4 * k + 1) < u
  · have hmg : mGoA t f u k = true := by unfold mGoA; exact decide_eq_true ⟨⟨⟨k0, kk⟩, hst⟩, hgo⟩
    rw [hmg, if_pos rfl] at h403
    have hoff : ¬ mLa (mNo t2 f u th) 1 k = true := by rw [hl, h403]; simp
    have y3 : ∀ g, 0 ≤ g → g < 4 → t3 395 (947 + 4 * k + g) = t 395 (947 + 4 * k + g) := fun g a b => by
      rw [v3 g a b]; unfold mGa; rw [if_neg hoff, row]
    have hl3 : mLa t3 1 k = false := by unfold mLa; rw [s403, h403]; simp
    have y4 : ∀ g, 0 ≤ g → g < 4 → t4 395 (947 + 4 * k + g) = t 395 (947 + 4 * k + g) := fun g a b => by
      rw [v4 g a b]; unfold mCa; rw [hl3, if_neg (fun q => absurd q.1 (by decide))]; exact y3 g a b
    have y51 : t5 395 (947 + 4 * k + 1) = t 395 (947 + 4 * k + 1) + (th - f) := by
      rw [v5 1 (by decide) (by decide)]; unfold mSha; rw [if_pos rfl, u403, h403, if_neg (by decide), y4 1 (by decide) (by decide)]
    have yo : ∀ g, 2 ≤ g → g < 4 → t5 395 (947 + 4 * k + g) = t 395 (947 + 4 * k + g) := fun g a b => by
      rw [v5 g (by lia) b]; unfold mSha; rw [if_neg (by lia)]; exact y4 g (by lia) b
    unfold anR
    rw [hc' 1, hc' 2, hc' 3, y51, yo 2 (by decide) (by decide), yo 3 (by decide) (by decide)]
    refine ⟨?_, a2, a3, ?_⟩
    · show pMv (s (zel 5 k) 1) (s (zel 5 k) 2) f u r = _
      unfold pMv; rw [a1, if_pos hgo, ← eth]; grind
    · exact ar_ga b1 b2 hgo.1 hgo.2 th0 th1 th2 hu f0 f200 d0 d2 hn
  · have hmg : ¬ mGoA t f u k = true := by unfold mGoA; exact fun q => hgo (of_decide_eq_true q).2
    rw [if_neg hmg] at h403
    have hon : mLa (mNo t2 f u th) 1 k = true := by rw [hl]; exact decide_eq_true ⟨hst, h403⟩
    have y31 : t3 395 (947 + 4 * k + 1) = pBk (t 395 (947 + 4 * k + 1)) f u := by rw [v3 1 (by decide) (by decide)]; unfold mGa; rw [if_pos hon, if_pos rfl, row]
    have y32 : t3 395 (947 + 4 * k + 2) = t 395 (947 + 4 * k + 2) := by rw [v3 2 (by decide) (by decide)]; unfold mGa; rw [if_pos hon, if_neg (by decide), if_neg (by decide), row]
    have y33 : t3 395 (947 + 4 * k + 3) = t 395 (947 + 4 * k + 3) := by rw [v3 3 (by decide) (by decide)]; unfold mGa; rw [if_pos hon, if_neg (by decide), if_pos rfl, row, row, if_neg hgo, w0']
    have hl3 : mLa t3 1 k = true := by unfold mLa; rw [s403, h403, y30, hst]; simp
    have y51 : t5 395 (947 + 4 * k + 1) = pOn (pBk (t 395 (947 + 4 * k + 1)) f u) (t 395 (947 + 4 * k + 2)) th d := by
      rw [v5 1 (by decide) (by decide)]; unfold mSha; rw [if_pos rfl, u403, h403, if_pos rfl, w0', v4 1 (by decide) (by decide)]; unfold mCa; rw [if_pos ⟨hl3, rfl⟩, y31, y32]
    have yo : ∀ g, 2 ≤ g → g < 4 → t5 395 (947 + 4 * k + g) = t3 395 (947 + 4 * k + g) := fun g a b => by
      rw [v5 g (by lia) b]; unfold mSha; rw [if_neg (by lia), v4 g (by lia) b]; unfold mCa; rw [if_neg (fun q => by have := q.2; lia)]
    unfold anR
    rw [hc' 1, hc' 2, hc' 3, y51, yo 2 (by decide) (by decide), yo 3 (by decide) (by decide), y32, y33]
    have r1' := pBk_rng b1 b2 f0 fu un hn
    rw [← ed] at r1'
    have n' : t 395 0 - d + d = t 395 0 := by grind
    have dn : d ≤ t 395 0 := by lia
    have hnd : t 395 0 - d + d ≤ 200 := by rw [n']; exact hn
    have hnd2 : t 395 0 - d ≤ 200 := by lia
    have rr := pOn_rng (l := t 395 (947 + 4 * k + 2)) (p := th) r1'.1 r1'.2 (Int32.le_of_lt d0) hnd hnd2 d2
    rw [n'] at rr
    refine ⟨?_, a2, a3, rr⟩
    show pMv (s (zel 5 k) 1) (s (zel 5 k) 2) f u r = _
    unfold pMv; rw [a1, if_neg hgo]; unfold pLb; rw [a2, ← eth, ← ed]
set_option maxHeartbeats 16000000 in
theorem S_move {f u r : Int32} (h : SR s 1 (t 395)) (hc : hMov s s' f u r) (e1 : ∀ j, t1 395 j = t 395 j) (hg : mGo3 t t1 t2 f u) (hk : mTk (mNo t2 f u (pLd f u r)) t3 f u 1) (hm : mMk t3 t4 (pLd f u r) (u - f) 1) (hf : mFin t4 t5 f (pLd f u r) (u - f)) (f0 : 0 ≤ f) (fu : f < u) (un : u ≤ t 395 0) (r0 : 0 ≤ r) (r1 : r ≤ t 395 0) (hr : ¬ (f ≤ r ∧ r ≤ u)) : SR s' 1 (t5 395) := by
  have hb := SR_b h
  obtain ⟨th0, th1, th2⟩ := mv_th f0 fu un hb.1.2 r0 r1 hr
  obtain ⟨th, eth⟩ : ∃ th, th = pLd f u r := ⟨_, rfl⟩
  obtain ⟨d, ed⟩ : ∃ d, d = u - f := ⟨_, rfl⟩
  rw [← eth] at th0 th1 th2 hk hm hf
  rw [← ed] at th1 hm hf
  have hu : u = f + d := by lia
  have d0 : 0 < d := by lia
  have d2 : d ≤ 200 := by lia
  have fd : f + d ≤ t 395 0 := by lia
  have f200 : f ≤ 200 := by lia
  obtain ⟨⟨c1, c2, c3, c4, c5⟩, c6, c7, c8⟩ := hc
  rw [← eth] at c7 c8
  obtain ⟨g1, g2, g3, g4⟩ := hg
  rw [← ed] at g2
  obtain ⟨k1, k2, k3, k4, k5, k6, k7⟩ := hk
  rw [← ed] at k2 k5
  obtain ⟨m1, m2, m3, m4, m5, m6, m7⟩ := hm
  obtain ⟨q1, q2, q3, q4⟩ := hf
  have row : ∀ j, mNo t2 f u th 395 j = t 395 j := fun j => by rw [mNo_f (by decide), g1 395 j (by decide) (by decide) (by decide)]; exact e1 j
  rw [row] at k2 k3 k4
  have n3 : t3 395 0 + d = t 395 0 := by rw [k2]; grind
  have z0 : t5 395 0 = t 395 0 := by rw [q2 0 (by decide), if_neg (by lia), m2, n3]
  have z1 : t5 395 1 = t 395 1 := by rw [q2 1 (by decide), if_neg (by lia), m3, k3]
  have z2 : t5 395 2 = t 395 2 := by rw [q2 2 (by decide), if_neg (by lia), m4, k4]
  have s402 : ∀ k, t3 402 k = t2 402 k := fun k => by rw [k1 402 k (by decide)]; exact mNo_f (by decide)
  have s403 : ∀ k, t3 403 k = t2 403 k := fun k => by rw [k1 403 k (by decide)]; exact mNo_f (by decide)
  have u402 : ∀ k, t4 402 k = t2 402 k := fun k => by rw [m1 402 k (by decide)]; exact s402 k
  have u403 : ∀ k, t4 403 k = t2 403 k := fun k => by rw [m1 403 k (by decide)]; exact s403 k
  have u404 : ∀ j, 0 ≤ j → j < 4 * d → t4 404 j = t 395 (3 + 4 * f + j) := fun j j0 j1 => by
    rw [m1 404 j (by decide), k1 404 j (by decide), mNo_f (by decide)]; exact g2 j j0 j1
  refine SR_mk ⟨by rw [c6, z0]; exact h.2.1.1, by rw [c2, z1]; exact h.2.1.2.1, by rw [c3, z2]; exact h.2.1.2.2⟩ ⟨by rw [z0]; exact hb.1, by rw [z1]; exact hb.2.1, by rw [z2]; exact hb.2.2⟩ (fun i i0 i1 => ?_) (fun k k0 kk => ?_) (fun k k0 kk => ?_)
  · rw [z0] at i1
    obtain ⟨j, ⟨j0, j1⟩, hj⟩ := mv_src f0 d0 fd hb.1.2 th0 th1 th2 d2 f200 i0 i1
    have x1 := c7 i i0 (by rw [h.2.1.1]; exact i1)
    have x2 := c8 i i0 (by rw [h.2.1.1]; exact i1)
    rw [mv_cls hu f0 d0 fd hb.1.2 th0 th1 th2 d2 f200 i0 i1 hj] at x1 x2
    refine leR_c (i := j) x1 x2 (fun x x0 x3 => ?_) (h.2.2.1 j j0 j1)
    refine mv_let (R := t 395) (r3 := t3 395) (r4 := t4 395) (r5 := t5 395) (M := t4 404) f0 d0 fd hb.1.2 th0 th1 th2 d2 f200 i0 i1 (fun q a b => ?_) (fun q a b => ?_) q2 u404 x0 x3 hj
    · have := k5 q a (by rw [row]; exact b)
      rw [row, row] at this; exact this
    · have n3' : t3 395 0 = t 395 0 - d := k2
      have := m5 q a b
      rw [n3'] at this; exact this
  · rw [z1] at kk
    have k3' : k < t3 395 1 := by rw [k3]; exact kk
    exact S_move_sp h eth ed hu d0 d2 f200 f0 fu un th0 th1 th2 row z0 s402 u402 k0 kk (fun g => c4 k g k0 (by rw [h.2.1.2.1]; exact kk)) (fun g a b => k6 k g k0 (by rw [row]; exact kk) a b) (fun g a b => m6 k g k0 k3' a b) (fun g a b => q3 k g k0 (by lia) a b) (g3 k k0 (by lia))
  · rw [z2] at kk
    have k4' : k < t3 395 2 := by rw [k4]; exact kk
    exact S_move_an h eth ed hu d0 d2 f200 f0 fu un th0 th1 th2 row z0 s403 u403 k0 kk (fun g => c5 k g k0 (by rw [h.2.1.2.2]; exact kk)) (fun g a b => k7 k g k0 (by rw [row]; exact kk) a b) (fun g a b => m7 k g k0 k4' a b) (fun g a b => q4 k g k0 (by lia) a b) (g4 k k0 (by lia))
theorem J_moved {s t : zSig} (h : SR s 1 (t 395)) {f u : Int32} : zit (nGo t f u) 0 16 = zit (nMv s f u) 0 (s 1 4) := by
  have hb := SR_b h
  rw [zit_tail (n := t 395 1) (m := 16) hb.2.1.1 hb.2.1.2 (fun j x j0 j1 => ?_), h.2.1.2.1]
  · refine zit_congr hb.2.1.1 (fun k x k0 k1 => ?_)
    unfold nGo nMv mGo
    have hs := SR_st h k0 k1
    by_cases hz : t 395 (803 + 9 * k) = 1
    · obtain ⟨⟨a1, a2, -⟩, -⟩ := (SR_sp h k0 k1).2.2 hz
      rw [a1, a2]
      by_cases hc : f ≤ t 395 (803 + 9 * k + 1) ∧ t 395 (803 + 9 * k + 2) ≤ u
      · rw [if_pos (decide_eq_true ⟨⟨⟨k0, k1⟩, hz⟩, hc⟩), if_pos ⟨hs.mpr hz, hc⟩]
      · rw [if_neg (fun q => hc (of_decide_eq_true q).2), if_neg (fun q => hc q.2)]
    · rw [if_neg (fun q => hz (of_decide_eq_true q).1.2), if_neg (fun q => hz (hs.mp q.1))]
  · unfold nGo mGo
    rw [if_neg (fun q => by have := (of_decide_eq_true q).1.1.2; lia)]
end

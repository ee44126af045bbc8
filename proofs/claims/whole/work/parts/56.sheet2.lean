/-! the sheet and the row behind the other acts -/
section
variable {s s' t t' : zSig}
theorem S_span (h : SR s 1 (t 395)) {n : Int32} (n0 : 0 ≤ n) (n1 : n < t 395 1) (hs : ∀ c j, c ≠ zel 4 n → 1 ≤ c → c < 34 → s' c j = s c j) (ht : ∀ j, (∀ f, 0 ≤ f → f < 9 → j ≠ 803 + 9 * n + f) → t' 395 j = t 395 j) (hn : s' (zel 4 n) 0 = t' 395 (803 + 9 * n) ∧ (t' 395 (803 + 9 * n) = 0 ∨ t' 395 (803 + 9 * n) = 1) ∧ (t' 395 (803 + 9 * n) = 1 → spR s' (zel 4 n) (t' 395) (803 + 9 * n) (t 395 0))) : SR s' 1 (t' 395) := by
  have hb := SR_b h
  have hz := zel4_rng n0 (by lia : n < 16)
  have n16 : n < 16 := by lia
  have r0 := ht 0 (fun f f0 f1 => by lia)
  have r1 := ht 1 (fun f f0 f1 => by lia)
  have r2 := ht 2 (fun f f0 f1 => by lia)
  refine SR_mk ⟨by rw [hs 1 2 (by omega) (by decide) (by decide), r0]; exact h.2.1.1, by rw [hs 1 4 (by omega) (by decide) (by decide), r1]; exact h.2.1.2.1, by rw [hs 1 6 (by omega) (by decide) (by decide), r2]; exact h.2.1.2.2⟩ ⟨by rw [r0]; exact hb.1, by rw [r1]; exact hb.2.1, by rw [r2]; exact hb.2.2⟩ (fun i i0 i1 => ?_) (fun k k0 g1 => ?_) (fun k k0 g1 => ?_)
  · rw [r0] at i1
    refine leR_c (hs 2 i (by omega) (by decide) (by decide)) (hs 3 i (by omega) (by decide) (by decide)) (fun x x0 x3 => ht _ (fun f f0 f1 => by lia)) (h.2.2.1 i i0 i1)
  · rw [r1] at g1
    rw [r0]
    by_cases hk : k = n
    · subst hk; exact hn
    · have k16 : k < 16 := by lia
      have hne : zel 4 k ≠ zel 4 n := fun q => hk (zel4_inj k0 k16 n0 n16 q)
      have hz2 := zel4_rng k0 k16
      obtain ⟨q0, q1, q2⟩ := SR_sp h k0 g1
      have er : ∀ f, 0 ≤ f → f ≤ 8 → t' 395 (803 + 9 * k + f) = t 395 (803 + 9 * k + f) := fun f f0 f1 => ht _ (fun g g0 g1 q => hk (blks_inj k0 k16 f0 (by lia) n0 n16 g0 g1 q))
      have er0 := er 0 (by decide) (by decide)
      rw [← z0a] at er0
      rw [hs _ _ hne (by omega) (by omega), er0]
      exact ⟨q0, q1, fun q => spR_c (fun f _ _ => hs _ _ hne (by omega) (by omega)) er rfl (q2 q)⟩
  · rw [r2] at g1
    rw [r0]
    have k12 : k < 12 := by lia
    have hz2 := zel5_rng k0 k12
    obtain ⟨q0, q1, q2⟩ := SR_an h k0 g1
    have er : ∀ f, 0 ≤ f → f ≤ 3 → t' 395 (947 + 4 * k + f) = t 395 (947 + 4 * k + f) := fun f f0 f1 => ht _ (fun g g0 g1 => by lia)
    have er0 := er 0 (by decide) (by decide)
    rw [← z0a] at er0
    rw [hs _ _ (by omega) (by omega) (by omega), er0]
    exact ⟨q0, q1, fun q => anR_c (fun f _ _ => hs _ _ (by omega) (by omega) (by omega)) er rfl (q2 q)⟩
theorem zup_r {A j x : Int32} {u : zSig} : ∀ i, i ≠ A → zup u 395 A x 395 i = u 395 i := fun i hi => zup_i hi
theorem S_lift (h : SR s 1 (t 395)) {n : Int32} (n0 : 0 ≤ n) (n1 : n < t 395 1) : SR (zup s (zel 4 n) 0 0) 1 (zup t 395 (803 + 9 * n) 0 395) := by
  refine S_span h n0 n1 (fun c j hc _ _ => zup_a hc) (fun j hj => zup_i (fun q => hj 0 (by decide) (by decide) (q.trans (z0a _)))) ?_
  rw [zup_s, zup_s]
  exact ⟨rfl, Or.inl rfl, fun q => absurd q (by decide)⟩
theorem S_set (h : SR s 1 (t 395)) {n v g : Int32} (n0 : 0 ≤ n) (n1 : n < t 395 1) (hg : g = 3 ∨ g = 8) : SR (zup s (zel 4 n) g v) 1 (zup t 395 (803 + 9 * n + g) v 395) := by
  have g0 : g ≠ 0 := by lia
  refine S_span h n0 n1 (fun c j hc _ _ => zup_a hc) (fun j hj => zup_i (fun q => hj g (by lia) (by lia) q)) ?_
  obtain ⟨q0, q1, q2⟩ := SR_sp h n0 n1
  have e0 : zup t 395 (803 + 9 * n + g) v 395 (803 + 9 * n) = t 395 (803 + 9 * n) := zup_i (fun q => g0 ((zadd_0' _ _).mp q.symm))
  rw [zup_i (fun q => g0 q.symm), e0]
  refine ⟨q0, q1, fun q => ?_⟩
  obtain ⟨⟨a1, a2, a3, a4, a5, a6, a7, a8⟩, b1, b2, b3, b4⟩ := q2 q
  have es : ∀ f, f ≠ g → zup s (zel 4 n) g v (zel 4 n) f = s (zel 4 n) f := fun f hf => zup_i hf
  have et : ∀ f, f ≠ g → zup t 395 (803 + 9 * n + g) v 395 (803 + 9 * n + f) = t 395 (803 + 9 * n + f) := fun f hf => zup_o hf
  unfold spR
  rw [es 1 (by lia), es 2 (by lia), es 4 (by lia), es 5 (by lia), es 6 (by lia), es 7 (by lia), et 1 (by lia), et 2 (by lia), et 4 (by lia), et 5 (by lia), et 6 (by lia), et 7 (by lia)]
  rcases hg with hg | hg
  · subst hg
    rw [zup_s, zup_s, es 8 (by decide), et 8 (by decide)]
    exact ⟨⟨a1, a2, rfl, a4, a5, a6, a7, a8⟩, b1, b2, b3, b4⟩
  · subst hg
    rw [zup_s, zup_s, es 3 (by decide), et 3 (by decide)]
    exact ⟨⟨a1, a2, a3, a4, a5, a6, a7, rfl⟩, b1, b2, b3, b4⟩
theorem S_stretch (h : SR s 1 (t 395)) {n f u : Int32} (n0 : 0 ≤ n) (n1 : n < t 395 1) (f0 : 0 ≤ f) (fu : f < u) (u1 : u ≤ t 395 0) : SR (zup (zup s (zel 4 n) 1 f) (zel 4 n) 2 u) 1 (zup (zup t 395 (803 + 9 * n + 1) f) 395 (803 + 9 * n + 2) u 395) := by
  refine S_span h n0 n1 (fun c j hc _ _ => by rw [zup_a hc, zup_a hc]) (fun j hj => by rw [zup_i (fun q => hj 2 (by decide) (by decide) q), zup_i (fun q => hj 1 (by decide) (by decide) q)]) ?_
  obtain ⟨q0, q1, q2⟩ := SR_sp h n0 n1
  have e0 : zup (zup t 395 (803 + 9 * n + 1) f) 395 (803 + 9 * n + 2) u 395 (803 + 9 * n) = t 395 (803 + 9 * n) := by
    rw [zup_i (by lia), zup_i (by lia)]
  rw [zup_i (by decide), zup_i (by decide), e0]
  refine ⟨q0, q1, fun q => ?_⟩
  obtain ⟨⟨a1, a2, a3, a4, a5, a6, a7, a8⟩, b1, b2, b3, b4⟩ := q2 q
  have es : ∀ g, 3 ≤ g → zup (zup s (zel 4 n) 1 f) (zel 4 n) 2 u (zel 4 n) g = s (zel 4 n) g := fun g hg => by rw [zup_i (by lia), zup_i (by lia)]
  have et : ∀ g, 3 ≤ g → zup (zup t 395 (803 + 9 * n + 1) f) 395 (803 + 9 * n + 2) u 395 (803 + 9 * n + g) = t 395 (803 + 9 * n + g) := fun g hg => by rw [zup_o (by lia), zup_o (by lia)]
  unfold spR
  rw [es 3 (by decide), es 4 (by decide), es 5 (by decide), es 6 (by decide), es 7 (by decide), es 8 (by decide), et 3 (by decide), et 4 (by decide), et 5 (by decide), et 6 (by decide), et 7 (by decide), et 8 (by decide), zup_s, zup_s, zup_i (by decide), zup_s, zup_o (by decide), zup_s]
  exact ⟨⟨rfl, rfl, a3, a4, a5, a6, a7, a8⟩, ⟨f0, fu, u1⟩, b2, b3, b4⟩
theorem S_unpin (h : SR s 1 (t 395)) {n : Int32} (n0 : 0 ≤ n) (n1 : n < t 395 2) : SR (zup s (zel 5 n) 0 0) 1 (zup t 395 (947 + 4 * n) 0 395) := by
  have hb := SR_b h
  have n12 : n < 12 := by lia
  have hz := zel5_rng n0 n12
  have es : ∀ c j, c ≠ zel 5 n → zup s (zel 5 n) 0 0 c j = s c j := fun c j hc => zup_a hc
  have et : ∀ j, j ≠ 947 + 4 * n → zup t 395 (947 + 4 * n) 0 395 j = t 395 j := fun j hj => zup_i hj
  have r0 := et 0 (by lia)
  have r1 := et 1 (by lia)
  have r2 := et 2 (by lia)
  refine SR_mk ⟨by rw [es 1 2 (by omega), r0]; exact h.2.1.1, by rw [es 1 4 (by omega), r1]; exact h.2.1.2.1, by rw [es 1 6 (by omega), r2]; exact h.2.1.2.2⟩ ⟨by rw [r0]; exact hb.1, by rw [r1]; exact hb.2.1, by rw [r2]; exact hb.2.2⟩ (fun i i0 i1 => ?_) (fun k k0 g1 => ?_) (fun k k0 g1 => ?_)
  · rw [r0] at i1
    exact leR_c (es 2 i (by omega)) (es 3 i (by omega)) (fun x x0 x3 => et _ (by lia)) (h.2.2.1 i i0 i1)
  · rw [r1] at g1
    rw [r0]
    have k16 : k < 16 := by lia
    have hz2 := zel4_rng k0 k16
    obtain ⟨q0, q1, q2⟩ := SR_sp h k0 g1
    rw [es _ _ (by omega), et _ (by lia)]
    exact ⟨q0, q1, fun q => spR_c (fun f _ _ => es _ _ (by omega)) (fun f f0 f1 => et _ (by lia)) rfl (q2 q)⟩
  · rw [r2] at g1
    rw [r0]
    by_cases hk : k = n
    · subst hk
      rw [zup_s, zup_s]
      exact ⟨rfl, Or.inl rfl, fun q => absurd q (by decide)⟩
    · have k12 : k < 12 := by lia
      have hne : zel 5 k ≠ zel 5 n := fun q => hk (zel5_inj k0 k12 n0 n12 q)
      obtain ⟨q0, q1, q2⟩ := SR_an h k0 g1
      rw [es _ _ hne, et _ (by lia)]
      exact ⟨q0, q1, fun q => anR_c (fun f _ _ => es _ _ hne) (fun f f0 f1 => et _ (by lia)) rfl (q2 q)⟩
theorem S_lay (h : SR s 1 (t 395)) {f u la on of co gr si : Int32} (n1 : t 395 1 < 16) (f0 : 0 ≤ f) (fu : f < u) (u1 : u ≤ t 395 0) (on0 : 0 ≤ on ∧ on ≤ 15) (of0 : 0 ≤ of ∧ of ≤ 15) (co0 : -1 ≤ co ∧ co ≤ 7) : SR (hLay s (t 395 1) f u la on of co gr si) 1 (mLay t (t 395 1) f u la on of co gr si 395) := by
  have hb := SR_b h
  obtain ⟨n, hn⟩ : ∃ n, n = t 395 1 := ⟨_, rfl⟩
  rw [← hn]
  have n0 : 0 ≤ n := by lia
  have n16 : n < 16 := by lia
  have hz := zel4_rng n0 n16
  have es : ∀ c j, c ≠ zel 4 n → (c ≠ 1 ∨ j ≠ 4) → hLay s n f u la on of co gr si c j = s c j := fun c j hc h2 => by
    unfold hLay
    rw [zup_a hc, zup_a hc, zup_a hc, zup_a hc, zup_a hc, zup_a hc, zup_a hc, zup_a hc, zup_a hc, zup_e, if_neg (fun q => h2.elim (fun g => g q.1) (fun g => g q.2))]
  have e14 : hLay s n f u la on of co gr si 1 4 = n + 1 := by
    unfold hLay
    have hc : (1 : Nat) ≠ zel 4 n := by omega
    rw [zup_a hc, zup_a hc, zup_a hc, zup_a hc, zup_a hc, zup_a hc, zup_a hc, zup_a hc, zup_a hc, zup_s]
  have et : ∀ j, (∀ g, 0 ≤ g → g < 9 → j ≠ 803 + 9 * n + g) → j ≠ 1 → mLay t n f u la on of co gr si 395 j = t 395 j := fun j hj h2 => by
    unfold mLay
    rw [zup_i h2, zup_i (hj 8 (by decide) (by decide)), zup_i (hj 7 (by decide) (by decide)), zup_i (hj 6 (by decide) (by decide)), zup_i (hj 5 (by decide) (by decide)), zup_i (hj 4 (by decide) (by decide)), zup_i (hj 3 (by decide) (by decide)), zup_i (hj 2 (by decide) (by decide)), zup_i (hj 1 (by decide) (by decide)), zup_i (fun q => hj 0 (by decide) (by decide) (q.trans (z0a _)))]
  have r1 : mLay t n f u la on of co gr si 395 1 = n + 1 := by unfold mLay; rw [zup_s]
  have r0 := et 0 (fun g g0 g1 => by lia) (by decide)
  have r2 := et 2 (fun g g0 g1 => by lia) (by decide)
  refine SR_mk ⟨by rw [es 1 2 (by omega) (by decide), r0]; exact h.2.1.1, by rw [e14, r1], by rw [es 1 6 (by omega) (by decide), r2]; exact h.2.1.2.2⟩ ⟨by rw [r0]; exact hb.1, by rw [r1]; lia, by rw [r2]; exact hb.2.2⟩ (fun i i0 i1 => ?_) (fun k k0 g1 => ?_) (fun k k0 g1 => ?_)
  · rw [r0] at i1
    exact leR_c (es 2 i (by omega) (Or.inl (by decide))) (es 3 i (by omega) (Or.inl (by decide))) (fun x x0 x3 => et _ (fun g g0 g1 => by lia) (by lia)) (h.2.2.1 i i0 i1)
  · rw [r1] at g1
    rw [r0]
    by_cases hk : k = n
    · subst hk
      have T : ∀ g x, mLay t k f u la on of co gr si 395 (803 + 9 * k + g) = x → mLay t k f u la on of co gr si 395 (803 + 9 * k + g) = x := fun _ _ q => q
      have t0 : mLay t k f u la on of co gr si 395 (803 + 9 * k) = 1 := by
        unfold mLay; rw [zup_i (by lia), zup_i (by lia), zup_i (by lia), zup_i (by lia), zup_i (by lia), zup_i (by lia), zup_i (by lia), zup_i (by lia), zup_i (by lia), zup_s]
      have t1 : mLay t k f u la on of co gr si 395 (803 + 9 * k + 1) = f := by
        unfold mLay; rw [zup_i (by lia), zup_o (by decide), zup_o (by decide), zup_o (by decide), zup_o (by decide), zup_o (by decide), zup_o (by decide), zup_o (by decide), zup_s]
      have t2 : mLay t k f u la on of co gr si 395 (803 + 9 * k + 2) = u := by
        unfold mLay; rw [zup_i (by lia), zup_o (by decide), zup_o (by decide), zup_o (by decide), zup_o (by decide), zup_o (by decide), zup_o (by decide), zup_s]
      have t3 : mLay t k f u la on of co gr si 395 (803 + 9 * k + 3) = la := by
        unfold mLay; rw [zup_i (by lia), zup_o (by decide), zup_o (by decide), zup_o (by decide), zup_o (by decide), zup_o (by decide), zup_s]
      have t4 : mLay t k f u la on of co gr si 395 (803 + 9 * k + 4) = on := by
        unfold mLay; rw [zup_i (by lia), zup_o (by decide), zup_o (by decide), zup_o (by decide), zup_o (by decide), zup_s]
      have t5 : mLay t k f u la on of co gr si 395 (803 + 9 * k + 5) = of := by
        unfold mLay; rw [zup_i (by lia), zup_o (by decide), zup_o (by decide), zup_o (by decide), zup_s]
      have t6 : mLay t k f u la on of co gr si 395 (803 + 9 * k + 6) = co + 1 := by
        unfold mLay; rw [zup_i (by lia), zup_o (by decide), zup_o (by decide), zup_s]
      have t7 : mLay t k f u la on of co gr si 395 (803 + 9 * k + 7) = gr := by
        unfold mLay; rw [zup_i (by lia), zup_o (by decide), zup_s]
      have t8 : mLay t k f u la on of co gr si 395 (803 + 9 * k + 8) = si := by
        unfold mLay; rw [zup_i (by lia), zup_s]
      have c : ∀ g, hLay s k f u la on of co gr si (zel 4 k) g = if g = 7 then gr else if g = 6 then co else if g = 5 then of else if g = 4 then on else if g = 8 then si else if g = 3 then la else if g = 2 then u else if g = 1 then f else if g = 0 then 1 else s (zel 4 k) g := fun g => by
        unfold hLay
        simp only [zup_e, true_and]
        have h1 : ¬ (zel 4 k = 1 ∧ g = 4) := fun q => by omega
        rw [if_neg h1]
      rw [c 0, t0]
      refine ⟨rfl, Or.inr rfl, fun _ => ?_⟩
      unfold spR
      rw [c 1, c 2, c 3, c 4, c 5, c 6, c 7, c 8, t1, t2, t3, t4, t5, t6, t7, t8]
      exact ⟨⟨rfl, rfl, rfl, rfl, rfl, rfl, rfl, rfl⟩, ⟨f0, fu, u1⟩, on0, of0, by lia, by lia⟩
    · have k16 : k < 16 := by lia
      have hne : zel 4 k ≠ zel 4 n := fun q => hk (zel4_inj k0 k16 n0 n16 q)
      have hz2 := zel4_rng k0 k16
      obtain ⟨q0, q1, q2⟩ := SR_sp h k0 (by lia)
      have er : ∀ g, 0 ≤ g → g ≤ 8 → mLay t n f u la on of co gr si 395 (803 + 9 * k + g) = t 395 (803 + 9 * k + g) := fun g f0 f1 => et _ (fun g' g0 g1 q => hk (blks_inj k0 k16 f0 (by lia) n0 n16 g0 g1 q)) (by lia)
      have er0 := er 0 (by decide) (by decide)
      rw [← z0a] at er0
      rw [es _ _ hne (Or.inl (by omega)), er0]
      exact ⟨q0, q1, fun q => spR_c (fun g _ _ => es _ _ hne (Or.inl (by omega))) er rfl (q2 q)⟩
  · rw [r2] at g1
    rw [r0]
    have k12 : k < 12 := by lia
    have hz2 := zel5_rng k0 k12
    obtain ⟨q0, q1, q2⟩ := SR_an h k0 g1
    have er : ∀ g, 0 ≤ g → g ≤ 3 → mLay t n f u la on of co gr si 395 (947 + 4 * k + g) = t 395 (947 + 4 * k + g) := fun g f0 f1 => et _ (fun g' g0 g1 => by lia) (by lia)
    have er0 := er 0 (by decide) (by decide)
    rw [← z0a] at er0
    rw [es _ _ (by omega) (Or.inl (by omega)), er0]
    exact ⟨q0, q1, fun q => anR_c (fun g _ _ => es _ _ (by omega) (Or.inl (by omega))) er rfl (q2 q)⟩
theorem S_pin (h : SR s 1 (t 395)) {p l : Int32} (n1 : t 395 2 < 12) (p0 : 0 ≤ p) (p1 : p ≤ t 395 0) : SR (hPin s (t 395 2) p l) 1 (mPin t (t 395 2) p l 395) := by
  have hb := SR_b h
  obtain ⟨n, hn⟩ : ∃ n, n = t 395 2 := ⟨_, rfl⟩
  rw [← hn]
  have n0 : 0 ≤ n := by lia
  have n12 : n < 12 := by lia
  have hz := zel5_rng n0 n12
  have es : ∀ c j, c ≠ zel 5 n → (c ≠ 1 ∨ j ≠ 6) → hPin s n p l c j = s c j := fun c j hc h2 => by
    unfold hPin
    rw [zup_a hc, zup_a hc, zup_a hc, zup_a hc, zup_e, if_neg (fun q => h2.elim (fun g => g q.1) (fun g => g q.2))]
  have e16 : hPin s n p l 1 6 = n + 1 := by
    unfold hPin
    have hc : (1 : Nat) ≠ zel 5 n := by omega
    rw [zup_a hc, zup_a hc, zup_a hc, zup_a hc, zup_s]
  have et : ∀ j, (∀ g, 0 ≤ g → g < 4 → j ≠ 947 + 4 * n + g) → j ≠ 2 → mPin t n p l 395 j = t 395 j := fun j hj h2 => by
    unfold mPin
    rw [zup_i h2, zup_i (hj 3 (by decide) (by decide)), zup_i (hj 2 (by decide) (by decide)), zup_i (hj 1 (by decide) (by decide)), zup_i (fun q => hj 0 (by decide) (by decide) (q.trans (z0a _)))]
  have r2 : mPin t n p l 395 2 = n + 1 := by unfold mPin; rw [zup_s]
  have r0 := et 0 (fun g g0 g1 => by lia) (by decide)
  have r1 := et 1 (fun g g0 g1 => by lia) (by decide)
  refine SR_mk ⟨by rw [es 1 2 (by omega) (by decide), r0]; exact h.2.1.1, by rw [es 1 4 (by omega) (by decide), r1]; exact h.2.1.2.1, by rw [e16, r2]⟩ ⟨by rw [r0]; exact hb.1, by rw [r1]; exact hb.2.1, by rw [r2]; lia⟩ (fun i i0 i1 => ?_) (fun k k0 g1 => ?_) (fun k k0 g1 => ?_)
  · rw [r0] at i1
    exact leR_c (es 2 i (by omega) (Or.inl (by decide))) (es 3 i (by omega) (Or.inl (by decide))) (fun x x0 x3 => et _ (fun g g0 g1 => by lia) (by lia)) (h.2.2.1 i i0 i1)
  · rw [r1] at g1
    rw [r0]
    have k16 : k < 16 := by lia
    have hz2 := zel4_rng k0 k16
    obtain ⟨q0, q1, q2⟩ := SR_sp h k0 g1
    have er : ∀ g, 0 ≤ g → g ≤ 8 → mPin t n p l 395 (803 + 9 * k + g) = t 395 (803 + 9 * k + g) := fun g f0 f1 => et _ (fun g' g0 g1 => by lia) (by lia)
    have er0 := er 0 (by decide) (by decide)
    rw [← z0a] at er0
    rw [es _ _ (by omega) (Or.inl (by omega)), er0]
    exact ⟨q0, q1, fun q => spR_c (fun g _ _ => es _ _ (by omega) (Or.inl (by omega))) er rfl (q2 q)⟩
  · rw [r2] at g1
    rw [r0]
    by_cases hk : k = n
    · subst hk
      have t0 : mPin t k p l 395 (947 + 4 * k) = 1 := by
        unfold mPin; rw [zup_i (by lia), zup_i (by lia), zup_i (by lia), zup_i (by lia), zup_s]
      have t1 : mPin t k p l 395 (947 + 4 * k + 1) = p := by
        unfold mPin; rw [zup_i (by lia), zup_o (by decide), zup_o (by decide), zup_s]
      have t2 : mPin t k p l 395 (947 + 4 * k + 2) = l := by
        unfold mPin; rw [zup_i (by lia), zup_o (by decide), zup_s]
      have t3 : mPin t k p l 395 (947 + 4 * k + 3) = 0 := by
        unfold mPin; rw [zup_i (by lia), zup_s]
      have c0 : hPin s k p l (zel 5 k) 0 = 1 := by unfold hPin; rw [zup_i (by decide), zup_i (by decide), zup_i (by decide), zup_s]
      have c1 : hPin s k p l (zel 5 k) 1 = p := by unfold hPin; rw [zup_i (by decide), zup_i (by decide), zup_s]
      have c2 : hPin s k p l (zel 5 k) 2 = l := by unfold hPin; rw [zup_i (by decide), zup_s]
      have c3 : hPin s k p l (zel 5 k) 3 = 0 := by unfold hPin; rw [zup_s]
      rw [c0, t0]
      refine ⟨rfl, Or.inr rfl, fun _ => ?_⟩
      unfold anR
      rw [c1, c2, c3, t1, t2, t3]
      exact ⟨rfl, rfl, rfl, p0, p1⟩
    · have k12 : k < 12 := by lia
      have hne : zel 5 k ≠ zel 5 n := fun q => hk (zel5_inj k0 k12 n0 n12 q)
      have hz2 := zel5_rng k0 k12
      obtain ⟨q0, q1, q2⟩ := SR_an h k0 (by lia)
      have er : ∀ g, 0 ≤ g → g ≤ 3 → mPin t n p l 395 (947 + 4 * k + g) = t 395 (947 + 4 * k + g) := fun g f0 f1 => et _ (fun g' g0 g1 q => hk (blka_inj k0 k12 f0 (by lia) n0 n12 g0 g1 q)) (by lia)
      have er0 := er 0 (by decide) (by decide)
      rw [← z0a] at er0
      rw [es _ _ hne (Or.inl (by omega)), er0]
      exact ⟨q0, q1, fun q => anR_c (fun g _ _ => es _ _ hne (Or.inl (by omega))) er rfl (q2 q)⟩
/-! the paint of letters changes -/
theorem S_paint (h : SR s 1 (t 395)) {f u : Int32} {F : Int32 → z3} (hs : ∀ c j, c ≠ 3 → 1 ≤ c → c < 34 → s' c j = s c j) (hp : ∀ i, 0 ≤ i → i < t 395 0 → (f ≤ i ∧ i < u → s' 3 i = f3 (F i) ∧ inR (F i)) ∧ (¬ (f ≤ i ∧ i < u) → s' 3 i = s 3 i)) (hm : mPn t t' f u F) (f0 : 0 ≤ f) (u1 : u ≤ t 395 0) : SR s' 1 (t' 395) := by
  have hb := SR_b h
  obtain ⟨-, m2, m3⟩ := hm
  have ro : ∀ j, j < 3 ∨ 803 ≤ j → t' 395 j = t 395 j := fun j hj => m2 j (fun i x i0 i1 x0 x1 => by lia)
  have r0 := ro 0 (by decide)
  have r1 := ro 1 (by decide)
  have r2 := ro 2 (by decide)
  refine SR_mk ⟨by rw [hs 1 2 (by decide) (by decide) (by decide), r0]; exact h.2.1.1, by rw [hs 1 4 (by decide) (by decide) (by decide), r1]; exact h.2.1.2.1, by rw [hs 1 6 (by decide) (by decide) (by decide), r2]; exact h.2.1.2.2⟩ ⟨by rw [r0]; exact hb.1, by rw [r1]; exact hb.2.1, by rw [r2]; exact hb.2.2⟩ (fun i i0 i1 => ?_) (fun k k0 g1 => ?_) (fun k k0 g1 => ?_)
  · rw [r0] at i1
    have hl := h.2.2.1 i i0 i1
    have e0 : t' 395 (3 + 4 * i) = t 395 (3 + 4 * i) := m2 _ (fun j x j0 j1 x0 x1 => by lia)
    obtain ⟨p1, p2⟩ := hp i i0 i1
    by_cases hc : f ≤ i ∧ i < u
    · have q := m3 i hc.1 hc.2
      unfold mRw at q
      unfold leR
      show s' 2 i = _ ∧ _ ∧ s' 3 i = _ ∧ _
      rw [hs 2 i (by decide) (by decide) (by decide), e0, q]
      exact ⟨hl.1, hl.2.1, p1 hc⟩
    · refine leR_c (hs 2 i (by decide) (by decide) (by decide)) (p2 hc) (fun x x0 x3 => ?_) hl
      by_cases hx : x = 0
      · rw [hx, ← z0a]; exact e0
      · exact m2 _ (fun j y j0 j1 y0 y1 => by lia)
  · rw [r1] at g1
    rw [r0]
    have k16 : k < 16 := by lia
    have hz2 := zel4_rng k0 k16
    obtain ⟨q0, q1, q2⟩ := SR_sp h k0 g1
    rw [hs _ _ (by omega) (by omega) (by omega), ro _ (Or.inr (by lia))]
    exact ⟨q0, q1, fun q => spR_c (fun g _ _ => hs _ _ (by omega) (by omega) (by omega)) (fun g g0 g1 => ro _ (Or.inr (by lia))) rfl (q2 q)⟩
  · rw [r2] at g1
    rw [r0]
    have k12 : k < 12 := by lia
    have hz2 := zel5_rng k0 k12
    obtain ⟨q0, q1, q2⟩ := SR_an h k0 g1
    rw [hs _ _ (by omega) (by omega) (by omega), ro _ (Or.inr (by lia))]
    exact ⟨q0, q1, fun q => anR_c (fun g _ _ => hs _ _ (by omega) (by omega) (by omega)) (fun g g0 g1 => ro _ (Or.inr (by lia))) rfl (q2 q)⟩
/-! no span stands any more -/
theorem S_none (h : SR s 1 (t 395)) (hs : ∀ c j, (c < 6 ∨ 22 ≤ c) → 1 ≤ c → c < 34 → s' c j = s c j) (hz : ∀ k, 0 ≤ k → k < 16 → s' (zel 4 k) 0 = 0) (hm : mZs t t') : SR s' 1 (t' 395) := by
  have hb := SR_b h
  obtain ⟨-, m2, m3, m4⟩ := hm
  have r0 := m2 0 (by decide)
  have r1 := m2 1 (by decide)
  have r2 := m2 2 (by decide)
  refine SR_mk ⟨by rw [hs 1 2 (by decide) (by decide) (by decide), r0]; exact h.2.1.1, by rw [hs 1 4 (by decide) (by decide) (by decide), r1]; exact h.2.1.2.1, by rw [hs 1 6 (by decide) (by decide) (by decide), r2]; exact h.2.1.2.2⟩ ⟨by rw [r0]; exact hb.1, by rw [r1]; exact hb.2.1, by rw [r2]; exact hb.2.2⟩ (fun i i0 i1 => ?_) (fun k k0 g1 => ?_) (fun k k0 g1 => ?_)
  · rw [r0] at i1
    exact leR_c (hs 2 i (by decide) (by decide) (by decide)) (hs 3 i (by decide) (by decide) (by decide)) (fun x x0 x3 => m2 _ (by lia)) (h.2.2.1 i i0 i1)
  · rw [r1] at g1
    rw [hz k k0 (by lia), m4 k k0 g1]
    exact ⟨rfl, Or.inl rfl, fun q => absurd q (by decide)⟩
  · rw [r2] at g1
    rw [r0]
    have k12 : k < 12 := by lia
    have hz2 := zel5_rng k0 k12
    obtain ⟨q0, q1, q2⟩ := SR_an h k0 g1
    rw [hs _ _ (by omega) (by omega) (by omega), m3 _ (by lia)]
    exact ⟨q0, q1, fun q => anR_c (fun g _ _ => hs _ _ (by omega) (by omega) (by omega)) (fun g g0 g1 => m3 _ (by lia)) rfl (q2 q)⟩
/-! a text is read -/
theorem S_new {n : Int32} (n0 : 0 ≤ n) (n1 : n ≤ 200) (hc : hNew s s') (hm : mNw t t') (ec : s 317 2 = n) (em : t 393 21 = n) (hl : ∀ i, 0 ≤ i → i < n → s 318 i = t 405 (4 * i) ∧ (0 ≤ t 405 (4 * i) ∧ t 405 (4 * i) ≤ 127) ∧ s 319 i = f3 (t 405 (4 * i + 1), t 405 (4 * i + 2), t 405 (4 * i + 3)) ∧ inR (t 405 (4 * i + 1), t 405 (4 * i + 2), t 405 (4 * i + 3))) : SR s' 1 (t' 395) := by
  obtain ⟨c1, c2, c3, c4, c5, c6⟩ := hc
  obtain ⟨m1, m2, m3, m4, m5⟩ := hm
  rw [ec] at c2 c5 c6
  rw [em] at m2 m5
  refine SR_mk ⟨by rw [c2, m2], by rw [c3, m3], by rw [c4, m4]⟩ ⟨by rw [m2]; exact ⟨n0, n1⟩, by rw [m3]; decide, by rw [m4]; decide⟩ (fun i i0 i1 => ?_) (fun k k0 g1 => ?_) (fun k k0 g1 => ?_)
  · rw [m2] at i1
    obtain ⟨l1, l2, l3, l4⟩ := hl i i0 i1
    unfold leR
    show s' 2 i = _ ∧ _ ∧ s' 3 i = _ ∧ _
    rw [c5 i i0 i1, c6 i i0 i1, m5 (4 * i) (by lia) (by lia), show 3 + 4 * i + 1 = 3 + (4 * i + 1) by grind, show 3 + 4 * i + 2 = 3 + (4 * i + 2) by grind, show 3 + 4 * i + 3 = 3 + (4 * i + 3) by grind, m5 (4 * i + 1) (by lia) (by lia), m5 (4 * i + 2) (by lia) (by lia), m5 (4 * i + 3) (by lia) (by lia)]
    exact ⟨l1, l2, l3, l4⟩
  · rw [m3] at g1; exfalso; lia
  · rw [m4] at g1; exfalso; lia
end

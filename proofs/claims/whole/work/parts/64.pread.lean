/-! reading: the class's steps against the reference's -/
def bR (a b : Int32) : Prop := (a = b ∧ 0 ≤ b ∧ b ≤ 255) ∨ (a = -1 ∧ b = 0)
theorem bR_c {a b c : Int32} (h : bR a b) (c0 : c ≠ -1) (c1 : c ≠ 0) : a = c ↔ b = c := by
  rcases h with ⟨h, -⟩ | ⟨h1, h2⟩
  · rw [h]
  · rw [h1, h2]; exact ⟨fun q => absurd q.symm c0, fun q => absurd q.symm c1⟩
theorem bR_k {a b : Int32} (h : bR a b) : fKd a = fKd b := by
  rcases h with ⟨h, -⟩ | ⟨h1, h2⟩
  · rw [h]
  · rw [h1, h2]; decide
theorem bR_d {a b m : Int32} (h : bR a b) (m9 : m ≤ 9) : ((0 ≤ a - 48 ∧ a - 48 ≤ m) ↔ (0 ≤ b - 48 ∧ b - 48 ≤ m)) ∧ ((0 ≤ b - 48 ∧ b - 48 ≤ m) → a = b) := by
  rcases h with ⟨h, -⟩ | ⟨h1, h2⟩
  · rw [h]; exact ⟨Iff.rfl, fun _ => rfl⟩
  · rw [h1, h2]; exact ⟨⟨fun q => absurd q.1 (by decide), fun q => absurd q.1 (by decide)⟩, fun q => absurd q.1 (by decide)⟩
theorem bR_t {s m : zSig} (h : RT s m) {k : Int32} (k0 : 0 ≤ k) : bR (rTp s k) (mBy m k) := by
  unfold rTp mBy
  rw [h.2.1]
  by_cases hk : k < s 34 1
  · have w := h.2.2 k k0 hk
    rw [if_pos ⟨k0, hk⟩, if_pos hk, w.2, (by8 w.1.1 w.1.2).1]
    exact Or.inl ⟨rfl, w.1⟩
  · rw [if_neg (fun q => hk q.2), if_neg hk]
    exact Or.inr ⟨rfl, rfl⟩
def kF (k : Int32) : Int32 := if k = 0 then 98 else if k = 1 then 105 else if k = 2 then 117 else if k = 3 then 115 else if k = 4 then 99 else 122
theorem fK_v {b : Int32} (h : fKd b ≠ -1) : b = 98 ∨ b = 105 ∨ b = 117 ∨ b = 115 ∨ b = 99 ∨ b = 122 := by
  unfold fKd at h
  by_cases h1 : b = 98
  · exact Or.inl h1
  by_cases h2 : b = 105
  · exact Or.inr (Or.inl h2)
  by_cases h3 : b = 117
  · exact Or.inr (Or.inr (Or.inl h3))
  by_cases h4 : b = 115
  · exact Or.inr (Or.inr (Or.inr (Or.inl h4)))
  by_cases h5 : b = 99
  · exact Or.inr (Or.inr (Or.inr (Or.inr (Or.inl h5))))
  by_cases h6 : b = 122
  · exact Or.inr (Or.inr (Or.inr (Or.inr (Or.inr h6))))
  rw [if_neg h1, if_neg h2, if_neg h3, if_neg h4, if_neg h5, if_neg h6] at h
  exact absurd rfl h
theorem fK_1 {b : Int32} : fKd b = -1 ↔ (gFl b = 0 ∧ b ≠ 99 ∧ b ≠ 122) := by
  by_cases h : fKd b = -1
  · refine ⟨fun _ => ?_, fun _ => h⟩
    have n : ∀ c, fKd c ≠ -1 → b ≠ c := fun c hc q => hc (by rw [← q]; exact h)
    unfold gFl
    rw [if_neg (n 98 (by decide)), if_neg (n 105 (by decide)), if_neg (n 117 (by decide)), if_neg (n 115 (by decide))]
    exact ⟨rfl, n 99 (by decide), n 122 (by decide)⟩
  · refine ⟨fun q => absurd q h, fun q => ?_⟩
    rcases fK_v h with rfl | rfl | rfl | rfl | rfl | rfl
    · exact absurd q.1 (by decide)
    · exact absurd q.1 (by decide)
    · exact absurd q.1 (by decide)
    · exact absurd q.1 (by decide)
    · exact absurd rfl q.2.1
    · exact absurd rfl q.2.2
theorem fK_4 {b : Int32} (h : fKd b ≠ -1) : 4 ≤ fKd b ↔ gFl b = 0 := by
  rcases fK_v h with rfl | rfl | rfl | rfl | rfl | rfl <;> decide
theorem fK_c {b : Int32} (h : fKd b ≠ -1) : fKd b = 4 ↔ b = 99 := by
  rcases fK_v h with rfl | rfl | rfl | rfl | rfl | rfl <;> decide
theorem kF_f {b : Int32} (h : fKd b ≠ -1) : kF (fKd b) = b := by
  rcases fK_v h with rfl | rfl | rfl | rfl | rfl | rfl <;> decide
theorem fK_inj {a b : Int32} (ha : fKd a ≠ -1) (hb : fKd b ≠ -1) : fKd a = fKd b ↔ a = b := ⟨fun h => by rw [← kF_f ha, h, kF_f hb], fun h => by rw [h]⟩
theorem or_all : ∀ a, a < 16 → ∀ b, b < 16 → 0 ≤ nI a ||| nI b ∧ nI a ||| nI b ≤ 15 := by decide +kernel
theorem or15 {a b : Int32} (a0 : 0 ≤ a ∧ a ≤ 15) (b0 : 0 ≤ b ∧ b ≤ 15) : 0 ≤ a ||| b ∧ a ||| b ≤ 15 := by
  obtain ⟨x, hx, rfl⟩ := nIr (n := 16) a0.1 (by show a < 16; lia) (by decide)
  obtain ⟨y, hy, rfl⟩ := nIr (n := 16) b0.1 (by show b < 16; lia) (by decide)
  exact or_all x hx y hy
theorem f3_mk {x : z3} (h : inR x) {b v w : Int32} (hb : fKd b ≠ -1) (h9 : b = 99 → v = w ∧ 0 ≤ w ∧ w ≤ 7) (h2 : b = 122 → v = w ∧ 0 ≤ w ∧ w ≤ 9) : fMk (f3 x) (fKd b) v = f3 (x.1 ||| gFl b, if b = 99 then w else x.2.1, if b = 122 then w else x.2.2) ∧ inR (x.1 ||| gFl b, if b = 99 then w else x.2.1, if b = 122 then w else x.2.2) := by
  obtain ⟨e1, e2, e3⟩ := fOf_in h
  have o0 : x.1 ||| 0 = x.1 := by rw [Int32.or_zero]
  unfold fMk
  rw [e1, e2, e3]
  rcases fK_v hb with rfl | rfl | rfl | rfl | rfl | rfl
  · exact ⟨rfl, or15 h.1 (by decide), h.2⟩
  · exact ⟨rfl, or15 h.1 (by decide), h.2⟩
  · exact ⟨rfl, or15 h.1 (by decide), h.2⟩
  · exact ⟨rfl, or15 h.1 (by decide), h.2⟩
  · obtain ⟨q1, q2⟩ := h9 rfl
    rw [show gFl 99 = 0 by decide, o0, if_pos (by decide : fKd 99 = 4), if_pos (rfl : (99 : Int32) = 99), if_neg (by decide : ¬ (99 : Int32) = 122), q1]
    exact ⟨rfl, h.1, q2, h.2.2⟩
  · obtain ⟨q1, q2⟩ := h2 rfl
    rw [show gFl 122 = 0 by decide, o0, if_neg (by decide : ¬ fKd 122 = 4), if_pos (by decide : fKd 122 = 5), if_neg (by decide : ¬ (122 : Int32) = 99), if_pos (rfl : (122 : Int32) = 122), q1]
    exact ⟨rfl, h.1, h.2.1, q2⟩
theorem mA1_b {m : zSig} {i : Int32} (i0 : 0 ≤ i) (i1 : i ≤ 400) : 0 ≤ mA1 m i ∧ mA1 m i ≤ 402 := by
  unfold mA1; split <;> lia
theorem mA2_b {m : zSig} {i : Int32} (i0 : 0 ≤ i) (i1 : i ≤ 400) : 0 ≤ mA2 m i ∧ mA2 m i ≤ 404 := by
  have := mA1_b (m := m) i0 i1
  unfold mA2; split <;> lia
theorem pl2 {i : Int32} : i + 2 = i + 1 + 1 := by grind
theorem nn1 {i : Int32} (i0 : 0 ≤ i) (i1 : i ≤ 404) : 0 ≤ i + 1 := by lia
theorem ne1 {i : Int32} (i0 : 0 ≤ i) : i ≠ -1 := by intro q; rw [q] at i0; exact absurd i0 (by decide)
theorem o8i {o : Int32} (h : o ≤ 8) : 8 ≤ o ↔ o = 8 := by constructor <;> intro q <;> lia
theorem o1 {o : Int32} (h : ¬ o = 0) (h0 : 0 ≤ o) (h8 : o ≤ 8) : 0 ≤ o - 1 ∧ o - 1 < o := by lia
theorem if79 {p q : Prop} [Decidable p] [Decidable q] (h : p ↔ q) : (if p then (7 : Int32) else 9) = if q then 7 else 9 := by
  by_cases hp : p
  · rw [if_pos hp, if_pos (h.mp hp)]
  · rw [if_neg hp, if_neg (fun w => hp (h.mpr w))]
theorem le79 {p : Prop} [Decidable p] : (if p then (7 : Int32) else 9) ≤ 9 := by
  by_cases hp : p
  · rw [if_pos hp]; decide
  · rw [if_neg hp]; decide
set_option maxHeartbeats 4000000 in
theorem mk_al {s m : zSig} {i : Int32} (hT : RT s m) (i0 : 0 ≤ i) (i1 : i ≤ 400) (e6 : s 317 6 = m 393 25) (o0 : 0 ≤ m 393 25) (o8 : m 393 25 ≤ 8) (hk : ∀ j, 0 ≤ j → j < m 393 25 → s 320 j = fKd (m 406 j) ∧ fKd (m 406 j) ≠ -1) : rMkF s i = mMkF m i ∧ (mMkF m i = -1 → rMkA s i = mA2 m i + 1 ∧ rK s i = fKd (mCh m i) ∧ fKd (mCh m i) ≠ -1 ∧ (mBy m (i + 1) ≠ 47 → (mCh m i = 99 → rVl s i = mDg m i ∧ 0 ≤ mDg m i ∧ mDg m i ≤ 7) ∧ (mCh m i = 122 → rVl s i = mDg m i ∧ 0 ≤ mDg m i ∧ mDg m i ≤ 9))) := by
  have A0 := mA1_b (m := m) i0 i1
  have e47 : rTp s (i + 1) = 47 ↔ mBy m (i + 1) = 47 := bR_c (bR_t hT (nn1 i0 (Int32.le_trans i1 (by decide)))) (by decide) (by decide)
  have eA : rA1 s i = mA1 m i := by
    unfold rA1 mA1
    by_cases h : mBy m (i + 1) = 47
    · rw [if_pos (e47.mpr h), if_pos h, pl2]
    · rw [if_neg (fun q => h (e47.mp q)), if_neg h]
  have eK : rK s i = fKd (mCh m i) := by
    unfold rK mCh; rw [eA]; exact bR_k (bR_t hT A0.1)
  have B1 : mB1 m i = true ↔ fKd (mCh m i) = -1 := by unfold mB1; rw [decide_eq_true_iff]; exact fK_1.symm
  by_cases hK : fKd (mCh m i) = -1
  · have eM : mMkF m i = mA1 m i := by unfold mMkF; rw [if_pos (B1.mpr hK)]
    have eR : rMkF s i = mA1 m i := by unfold rMkF; rw [eK, if_pos hK, eA]
    rw [eM, eR]
    exact ⟨rfl, fun q => absurd q (ne1 A0.1)⟩
  · have hB1 : ¬ mB1 m i = true := fun q => hK (B1.mp q)
    have bd : bR (rTp s (mA1 m i + 1)) (mBy m (mA1 m i + 1)) := bR_t hT (nn1 A0.1 (Int32.le_trans A0.2 (by decide)))
    have D : (rTp s (i + 1) ≠ 47 ∧ 4 ≤ rK s i) ↔ mDd m i = true := by
      unfold mDd; rw [decide_eq_true_iff, eK, fK_4 hK, Ne, e47]
    have e4 : (if rK s i = 4 then (7 : Int32) else 9) = if mCh m i = 99 then 7 else 9 := if79 (by rw [eK]; exact fK_c hK)
    have eV : mDd m i = true → rVl s i = rTp s (mA1 m i + 1) - 48 ∧ mDg m i = mBy m (mA1 m i + 1) - 48 := fun q => by
      unfold rVl mDg; rw [if_pos (D.mpr q), if_pos q, eA]; exact ⟨rfl, rfl⟩
    have eA2 : rA2 s i = mA2 m i := by
      unfold rA2 mA2
      by_cases h : mDd m i = true
      · rw [if_pos (D.mpr h), if_pos h, eA]
      · rw [if_neg (fun q => h (D.mp q)), if_neg h, eA]
    have B2 : rBv s i = true ↔ mB2 m i = true := by
      unfold rBv mB2
      rw [decide_eq_true_iff, decide_eq_true_iff, D, e4]
      constructor
      · rintro ⟨q1, q2⟩
        refine ⟨q1, fun w => q2 ?_⟩
        rw [(eV q1).2] at w; rw [(eV q1).1]; exact (bR_d bd le79).1.mpr w
      · rintro ⟨q1, q2⟩
        refine ⟨q1, fun w => q2 ?_⟩
        rw [(eV q1).1] at w; rw [(eV q1).2]; exact (bR_d bd le79).1.mp w
    have A20 := mA2_b (m := m) i0 i1
    have e93 : rTp s (mA2 m i) = 93 ↔ mBy m (mA2 m i) = 93 := bR_c (bR_t hT A20.1) (by decide) (by decide)
    have B3 : rBs s i = true ↔ mB3 m i = true := by
      unfold rBs mB3
      rw [decide_eq_true_iff, decide_eq_true_iff]
      simp only [ne_eq, e47, e6, o8i o8]
      by_cases hz : m 393 25 = 0
      · rw [hz]; simp
      · obtain ⟨z0, z1⟩ := o1 hz o0 o8
        obtain ⟨k1, k2⟩ := hk (m 393 25 - 1) z0 z1
        rw [k1, eK, fK_inj k2 hK]
    have eF : rMkF s i = mMkF m i := by
      unfold rMkF mMkF
      rw [eK, if_neg hK, if_neg hB1]
      by_cases h2 : mB2 m i = true
      · rw [if_pos (B2.mpr h2), if_pos h2, eA]
      · rw [if_neg (fun q => h2 (B2.mp q)), if_neg h2, eA2]
        by_cases h3 : mBy m (mA2 m i) = 93
        · rw [if_neg (fun q : rTp s (mA2 m i) ≠ 93 => q (e93.mpr h3)), if_neg (fun q : mBy m (mA2 m i) ≠ 93 => q h3)]
          by_cases h4 : mB3 m i = true
          · rw [if_pos (B3.mpr h4), if_pos h4]
          · rw [if_neg (fun q => h4 (B3.mp q)), if_neg h4]
        · rw [if_pos (fun q : rTp s (mA2 m i) = 93 => h3 (e93.mp q)), if_pos h3]
    refine ⟨eF, fun hF => ?_⟩
    unfold mMkF at hF
    rw [if_neg hB1] at hF
    by_cases h2 : mB2 m i = true
    · rw [if_pos h2] at hF
      exact absurd hF (ne1 (nn1 A0.1 (Int32.le_trans A0.2 (by decide))))
    rw [if_neg h2] at hF
    by_cases h3 : mBy m (mA2 m i) = 93
    · refine ⟨?_, eK, hK, fun h47 => ?_⟩
      · unfold rMkA
        rw [eK, if_neg hK, if_neg (fun q => h2 (B2.mp q)), eA2, if_neg (fun q => q (e93.mpr h3))]
      · have key : gFl (mCh m i) = 0 → rVl s i = mDg m i ∧ 0 ≤ mDg m i ∧ mDg m i ≤ (if mCh m i = 99 then 7 else 9) := fun hg => by
          have hd : mDd m i = true := by unfold mDd; exact decide_eq_true ⟨h47, hg⟩
          have hr : 0 ≤ mDg m i ∧ mDg m i ≤ (if mCh m i = 99 then 7 else 9) := by
            refine Decidable.byContradiction (fun q => h2 ?_)
            unfold mB2; exact decide_eq_true ⟨hd, q⟩
          obtain ⟨v1, v2⟩ := eV hd
          refine ⟨?_, hr⟩
          rw [v2] at hr
          rw [v1, v2, (bR_d bd le79).2 hr]
        refine ⟨fun h9 => ?_, fun h9 => ?_⟩
        · have := key (by rw [h9]; decide)
          rw [if_pos h9] at this; exact this
        · have := key (by rw [h9]; decide)
          rw [if_neg (by rw [h9]; decide)] at this; exact this
    · rw [if_pos h3] at hF
      exact absurd hF (ne1 A20.1)

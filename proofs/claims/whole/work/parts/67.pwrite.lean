/-! writing: the class's writer against the reference's -/
def WV (b v w : Int32) : Prop := (b = 99 → v = w ∧ w ≠ 0 ∧ 0 ≤ w ∧ w ≤ 9) ∧ (b = 122 → v = w ∧ w ≠ 4 ∧ 0 ≤ w ∧ w ≤ 9) ∧ (b ≠ 99 → b ≠ 122 → v = 1)
def WR (a m : zSig) (b : Int32) : Prop := okM a ∧ (a 322 1 = m 393 27 ∧ 0 ≤ m 393 27 ∧ m 393 27 ≤ b) ∧ (∀ j, 0 ≤ j → j < m 393 27 → j < 400 → (0 ≤ a 323 j ∧ a 323 j ≤ 127) ∧ m 408 j = (a 323 j).toInt8.toInt32) ∧ a 322 4 = m 393 25 ∧ okO m ∧ ∀ k, 0 ≤ k → k < m 393 25 → a 324 k = fKd (m 406 k) ∧ WV (m 406 k) (a 325 k) (m 407 k)
theorem wA3 {s : zSig} {v j : Int32} : wAdd s v 323 j = if j = s 322 1 ∧ s 322 1 < 400 then v else s 323 j := by
  unfold wAdd
  rw [zup_a (by decide)]
  by_cases h : s 322 1 < 400
  · rw [if_pos h, zup_e]; simp only [true_and, h, and_true]
  · rw [if_neg h, if_neg (fun q => h q.2)]
theorem hPu_27 {s : zSig} {v : Int32} : hPu s v 393 27 = s 393 27 + 1 := by unfold hPu; rw [zup_s]
theorem hPu_8 {s : zSig} {v j : Int32} : hPu s v 408 j = if j = s 393 27 then v.toInt8.toInt32 else s 408 j := by unfold hPu; rw [zup_a (by decide), zup_e]; simp only [true_and]
theorem hPu_f {s : zSig} {v : Int32} {c : Nat} {j : Int32} (h : c ≠ 408) (h2 : c ≠ 393 ∨ j ≠ 27) : hPu s v c j = s c j := by
  unfold hPu; rw [zup_e, if_neg (fun q => h2.elim (fun g => g q.1) (fun g => g q.2)), zup_a h]
theorem w_n {n b : Int32} (n0 : 0 ≤ n) (n1 : n ≤ b) (b1 : b ≤ 100000) : 0 ≤ n + 1 ∧ n + 1 ≤ b + 1 := by lia
theorem w_j {n b j : Int32} (n0 : 0 ≤ n) (n1 : n ≤ b) (b1 : b ≤ 100000) (j1 : j < n + 1) (h : ¬ j = n) : j < n := by lia
theorem W_put {a m : zSig} {b v : Int32} (h : WR a m b) (b1 : b ≤ 100000) (v0 : 0 ≤ v ∧ v ≤ 127) : WR (wAdd a v) (hPu m v) (b + 1) := by
  obtain ⟨h1, ⟨h2, n0, n1⟩, h3, h4, h5, h6⟩ := h
  have e25 : hPu m v 393 25 = m 393 25 := hPu_f (by decide) (by decide)
  have e6 : ∀ j, hPu m v 406 j = m 406 j := fun j => hPu_f (by decide) (Or.inl (by decide))
  have e7 : ∀ j, hPu m v 407 j = m 407 j := fun j => hPu_f (by decide) (Or.inl (by decide))
  refine ⟨okM_move h1 (fun j => wAs), ⟨by rw [wA1, hPu_27, h2], ?_⟩, fun j j0 j1 j4 => ?_, by rw [wA4, e25]; exact h4, okO_cl h5 (by rw [e25]; exact h5.1.1) (by rw [e25]; exact Int32.le_refl _) e6, fun k k0 k1 => ?_⟩
  · rw [hPu_27]; exact w_n n0 n1 b1
  · rw [hPu_27] at j1
    rw [wA3, hPu_8, h2]
    by_cases hj : j = m 393 27
    · rw [if_pos ⟨hj, by rw [← hj]; exact j4⟩, if_pos hj]; exact ⟨v0, rfl⟩
    · rw [if_neg (fun q => hj q.1), if_neg hj]; exact h3 j j0 (w_j n0 n1 b1 j1 hj) j4
  · rw [e25] at k1
    rw [wAk, wAv, e6, e7]; exact h6 k k0 k1
theorem sgn {a : zSig} {c : Int32} (h : okM a) (hc : fKd c ≠ -1) : a 100000 (fKd c) = c ∧ 0 ≤ c ∧ c ≤ 127 := by
  obtain ⟨h0, h1, h2, h3, h4, h5⟩ := h
  rcases fK_v hc with rfl | rfl | rfl | rfl | rfl | rfl
  · exact ⟨h0, by decide⟩
  · exact ⟨h1, by decide⟩
  · exact ⟨h2, by decide⟩
  · exact ⟨h3, by decide⟩
  · exact ⟨h4, by decide⟩
  · exact ⟨h5, by decide⟩
theorem b_4 {b : Int32} (h : b ≤ 90000) : b ≤ 100000 ∧ b + 1 ≤ 100000 ∧ b + 1 + 1 ≤ 100000 ∧ b + 1 + 1 + 1 ≤ 100000 ∧ b + 1 + 1 + 1 + 1 = b + 4 := by
  refine ⟨by lia, by lia, by lia, by lia, by grind⟩
theorem W_close {a m : zSig} {b : Int32} (h : WR a m b) (b1 : b ≤ 90000) (hz : m 393 25 ≠ 0) : WR (wCl a) (hCl m) (b + 4) := by
  obtain ⟨h1, h2, h3, h4, h5, h6⟩ := h
  obtain ⟨z0, z1⟩ := o1 hz h5.1.1 h5.1.2
  have e4 : zup a 322 4 (a 322 4 - 1) 322 4 = m 393 25 - 1 := by rw [zup_s, h4]
  have e25 : zup m 393 25 (m 393 25 - 1) 393 25 = m 393 25 - 1 := by rw [zup_s]
  have w0 : WR (zup a 322 4 (a 322 4 - 1)) (zup m 393 25 (m 393 25 - 1)) b := by
    refine ⟨okM_move h1 (fun j => zup_a (by decide)), by rw [zup_i (by decide), zup_i (by decide)]; exact h2, fun j j0 j1 j4 => ?_, by rw [e4, e25], okO_cl h5 (by rw [e25]; exact z0) (by rw [e25]; exact Int32.le_of_lt z1) (fun j => zup_a (by decide)), fun k k0 k1 => ?_⟩
    · rw [zup_i (by decide)] at j1
      rw [zup_a (by decide), zup_a (by decide)]; exact h3 j j0 j1 j4
    · rw [e25] at k1
      rw [zup_a (by decide), zup_a (by decide), zup_a (by decide), zup_a (by decide)]; exact h6 k k0 (Int32.lt_trans k1 z1)
  obtain ⟨q1, q2, q3, q4, q5⟩ := b_4 b1
  obtain ⟨k1, k2⟩ := h6 (m 393 25 - 1) z0 z1
  obtain ⟨s1, s2⟩ := sgn h1 (h5.2.1 (m 393 25 - 1) z0 z1)
  have es : a 100000 (a 324 (a 322 4 - 1)) = m 406 (m 393 25 - 1) := by rw [h4, k1, s1]
  unfold wCl hCl
  rw [es, ← q5]
  exact W_put (W_put (W_put (W_put w0 q1 (by decide)) q2 (by decide)) q3 s2) q4 (by decide)
theorem hCl_25 {m : zSig} : hCl m 393 25 = m 393 25 - 1 := by
  unfold hCl; rw [hPu_f (by decide) (by decide), hPu_f (by decide) (by decide), hPu_f (by decide) (by decide), hPu_f (by decide) (by decide), zup_s]
theorem hCl_f {m : zSig} {c : Nat} {j : Int32} (h : c ≠ 408) (h2 : c ≠ 393) : hCl m c j = m c j := by
  unfold hCl; rw [hPu_f h (Or.inl h2), hPu_f h (Or.inl h2), hPu_f h (Or.inl h2), hPu_f h (Or.inl h2), zup_a h2]
/-! which marks hold -/
theorem fl_all : ∀ f, f < 16 → ((nI f >>> (0 &&& 31)) &&& 1 = 0 ↔ nI f &&& 1 = 0) ∧ ((nI f >>> (1 &&& 31)) &&& 1 = 0 ↔ nI f &&& 2 = 0) ∧ ((nI f >>> (2 &&& 31)) &&& 1 = 0 ↔ nI f &&& 4 = 0) ∧ ((nI f >>> (3 &&& 31)) &&& 1 = 0 ↔ nI f &&& 8 = 0) := by decide +kernel
theorem fl_i {f : Int32} (h : 0 ≤ f ∧ f ≤ 15) : ((f >>> (0 &&& 31)) &&& 1 = 0 ↔ f &&& 1 = 0) ∧ ((f >>> (1 &&& 31)) &&& 1 = 0 ↔ f &&& 2 = 0) ∧ ((f >>> (2 &&& 31)) &&& 1 = 0 ↔ f &&& 4 = 0) ∧ ((f >>> (3 &&& 31)) &&& 1 = 0 ↔ f &&& 8 = 0) := by
  obtain ⟨x, hx, rfl⟩ := nIr (n := 16) h.1 (by show f < 16; lia) (by decide)
  exact fl_all x hx
theorem if_i {p q : Prop} [Decidable p] [Decidable q] {x y : Int32} (h : p ↔ q) : (if p then x else y) = if q then x else y := by
  by_cases hp : p
  · rw [if_pos hp, if_pos (h.mp hp)]
  · rw [if_neg hp, if_neg (fun w => hp (h.mpr w))]
theorem fMv_v {x : z3} (h : inR x) {c : Int32} (hc : fKd c ≠ -1) : fMv (f3 x) (fKd c) = if c = 99 then (if x.2.1 = 0 then -1 else x.2.1) else if c = 122 then (if x.2.2 = 4 then -1 else x.2.2) else if x.1 &&& gFl c = 0 then -1 else 1 := by
  obtain ⟨e1, e2, e3⟩ := fOf_in h
  obtain ⟨l0, l1, l2, l3⟩ := fl_i h.1
  unfold fMv
  rw [e1, e2, e3]
  rcases fK_v hc with rfl | rfl | rfl | rfl | rfl | rfl
  · rw [if_neg (by decide : ¬ fKd 98 = 4), if_neg (by decide : ¬ fKd 98 = 5), if_neg (by decide : ¬ (98 : Int32) = 99), if_neg (by decide : ¬ (98 : Int32) = 122)]
    exact if_i l0
  · rw [if_neg (by decide : ¬ fKd 105 = 4), if_neg (by decide : ¬ fKd 105 = 5), if_neg (by decide : ¬ (105 : Int32) = 99), if_neg (by decide : ¬ (105 : Int32) = 122)]
    exact if_i l1
  · rw [if_neg (by decide : ¬ fKd 117 = 4), if_neg (by decide : ¬ fKd 117 = 5), if_neg (by decide : ¬ (117 : Int32) = 99), if_neg (by decide : ¬ (117 : Int32) = 122)]
    exact if_i l2
  · rw [if_neg (by decide : ¬ fKd 115 = 4), if_neg (by decide : ¬ fKd 115 = 5), if_neg (by decide : ¬ (115 : Int32) = 99), if_neg (by decide : ¬ (115 : Int32) = 122)]
    exact if_i l3
  · rw [if_pos (by decide : fKd 99 = 4), if_pos (rfl : (99 : Int32) = 99)]
  · rw [if_neg (by decide : ¬ fKd 122 = 4), if_pos (by decide : fKd 122 = 5), if_neg (by decide : ¬ (122 : Int32) = 99), if_pos (rfl : (122 : Int32) = 122)]
theorem nv_1 {w : Int32} (h : 0 ≤ w) : ¬ (-1 : Int32) = w := fun q => absurd q.symm (ne1 h)
theorem H_al {x : z3} (h : inR x) {m : zSig} {k v : Int32} (hc : fKd (m 406 k) ≠ -1) (hv : WV (m 406 k) v (m 407 k)) : fMv (f3 x) (fKd (m 406 k)) = v ↔ mHs x m k = true := by
  rw [fMv_v h hc]
  unfold mHs
  rw [decide_eq_true_iff]
  obtain ⟨v1, v2, v3⟩ := hv
  by_cases h9 : m 406 k = 99
  · obtain ⟨q1, q2, q3, q4⟩ := v1 h9
    rw [if_pos h9, q1, h9]
    by_cases hz : x.2.1 = 0
    · rw [if_pos hz, hz]
      refine ⟨fun q => absurd q (nv_1 q3), fun q => ?_⟩
      rcases q with q | q | q
      · exact absurd q.2.symm q2
      · exact absurd q.1 (by decide)
      · exact absurd rfl q.1
    · rw [if_neg hz]
      refine ⟨fun q => Or.inl ⟨rfl, q⟩, fun q => ?_⟩
      rcases q with q | q | q
      · exact q.2
      · exact absurd q.1 (by decide)
      · exact absurd rfl q.1
  · rw [if_neg h9]
    by_cases h2 : m 406 k = 122
    · obtain ⟨q1, q2, q3, q4⟩ := v2 h2
      rw [if_pos h2, q1, h2]
      by_cases hz : x.2.2 = 4
      · rw [if_pos hz, hz]
        refine ⟨fun q => absurd q (nv_1 q3), fun q => ?_⟩
        rcases q with q | q | q
        · exact absurd q.1 (by decide)
        · exact absurd q.2.symm q2
        · exact absurd rfl q.2.1
      · rw [if_neg hz]
        refine ⟨fun q => Or.inr (Or.inl ⟨rfl, q⟩), fun q => ?_⟩
        rcases q with q | q | q
        · exact absurd q.1 (by decide)
        · exact q.2
        · exact absurd rfl q.2.1
    · rw [if_neg h2, v3 h9 h2]
      by_cases hz : x.1 &&& gFl (m 406 k) = 0
      · rw [if_pos hz]
        refine ⟨fun q => absurd q (by decide), fun q => ?_⟩
        rcases q with q | q | q
        · exact absurd q.1 h9
        · exact absurd q.1 h2
        · exact absurd hz q.2.2
      · rw [if_neg hz]
        exact ⟨fun _ => Or.inr (Or.inr ⟨h9, h2, hz⟩), fun _ => rfl⟩
theorem W_fu {a m : zSig} {b : Int32} {x : z3} (h : WR a m b) (hx : inR x) : wFu a (f3 x) = mFu x m := by
  obtain ⟨-, -, -, h4, h5, h6⟩ := h
  unfold wFu mFu
  rw [h4]
  refine zit_congr h5.1.1 (fun k y k0 k1 => ?_)
  obtain ⟨g1, g2⟩ := h6 k k0 k1
  rw [g1]
  have := H_al hx (h5.2.1 k k0 k1) g2
  by_cases hy : y = k ∧ mHs x m k = true
  · rw [if_pos hy, if_pos ⟨hy.1, this.mpr hy.2⟩]
  · rw [if_neg hy, if_neg (fun q => hy ⟨q.1, this.mp q.2⟩)]

/-! writing: closing, opening, all marks -/
theorem WR_le {a m : zSig} {b b' : Int32} (h : WR a m b) (hb : b ≤ b') : WR a m b' := ⟨h.1, ⟨h.2.1.1, h.2.1.2.1, Int32.le_trans h.2.1.2.2 hb⟩, h.2.2⟩
theorem n8_all : ∀ M, M < 9 → ∀ N, N < M → nI (M - N) - 1 = nI (M - (N + 1)) ∧ nI (M - N) ≠ 0 := by decide +kernel
theorem z8_all : ∀ M, M < 9 → ∀ D, D < 9 → zmu (nI M) (nI D) = M - D := by decide +kernel
theorem q8_all : ∀ N, N < 9 → (0 ≤ nI (4 * N) ∧ nI (4 * N) ≤ 32) ∧ nI (4 * (N + 1)) = nI (4 * N) + 4 := by decide +kernel
theorem b_cl {b y : Int32} (b0 : 0 ≤ b) (b1 : b ≤ 80000) (y0 : 0 ≤ y) (y1 : y ≤ 32) : b + y ≤ 90000 := by lia
theorem b_cl2 {b y : Int32} (b0 : 0 ≤ b) (b1 : b ≤ 80000) (y0 : 0 ≤ y) (y1 : y ≤ 32) : b + y ≤ b + 32 := by lia
theorem b_as {b y z : Int32} : b + y + z = b + (y + z) := by grind
theorem WR_b {a m : zSig} {b : Int32} (h : WR a m b) : 0 ≤ b := Int32.le_trans h.2.1.2.1 h.2.1.2.2
theorem W_clN {a m : zSig} {b : Int32} (h : WR a m b) (b1 : b ≤ 80000) {M : Nat} (hM : M < 9) (eM : m 393 25 = nI M) : ∀ N, N ≤ M → WR (zitN (fun _ => wCl) a N) (zitN (fun _ => hCl) m N) (b + nI (4 * N)) ∧ zitN (fun _ => hCl) m N 393 25 = nI (M - N) ∧ ∀ c j, c ≠ 408 → c ≠ 393 → zitN (fun _ => hCl) m N c j = m c j := by
  intro N
  induction N with
  | zero =>
    intro _
    exact ⟨WR_le h (by rw [show nI (4 * 0) = 0 by decide, z0p]; exact Int32.le_refl _), eM, fun _ _ _ _ => rfl⟩
  | succ N ih =>
    intro hN
    obtain ⟨i1, i2, i3⟩ := ih (by omega)
    obtain ⟨n1, n2⟩ := n8_all M hM N (by omega)
    obtain ⟨⟨q1, q2⟩, q3⟩ := q8_all N (by omega)
    have hw := W_close i1 (b_cl (WR_b h) b1 q1 q2) (by rw [i2]; exact n2)
    refine ⟨?_, ?_, fun c j hc hd => ?_⟩
    · rw [q3, ← b_as]; exact hw
    · show hCl (zitN (fun _ => hCl) m N) 393 25 = _
      rw [hCl_25, i2, n1]
    · show hCl (zitN (fun _ => hCl) m N) c j = _
      rw [hCl_f hc hd]; exact i3 c j hc hd
theorem W_clT {a m : zSig} {b d : Int32} (h : WR a m b) (b1 : b ≤ 80000) (d0 : 0 ≤ d) (d1 : d ≤ m 393 25) : WR (wClT a d) (mClT m d) (b + 32) ∧ mClT m d 393 25 = d ∧ ∀ c j, c ≠ 408 → c ≠ 393 → mClT m d c j = m c j := by
  have o := h.2.2.2.2.1.1
  obtain ⟨M, hM, eM⟩ := nIr (n := 9) o.1 (by show m 393 25 < 9; lia) (by decide)
  obtain ⟨D, hD, eD⟩ := nIr (n := 9) d0 (by show d < 9; lia) (by decide)
  have hDM : D ≤ M := by
    rw [eD, eM] at d1
    exact Decidable.byContradiction (fun q => absurd d1 (Int32.not_le.mpr (nI_lt (by omega) (by omega))))
  obtain ⟨i1, i2, i3⟩ := W_clN h b1 hM eM (M - D) (by omega)
  obtain ⟨⟨q1, q2⟩, -⟩ := q8_all (M - D) (by omega)
  unfold wClT mClT
  rw [h.2.2.2.1, eM, eD, z8_all M hM D hD]
  refine ⟨WR_le i1 (b_cl2 (WR_b h) b1 q1 q2), ?_, i3⟩
  rw [i2, show M - (M - D) = D by omega]
def AllH (x : z3) (m : zSig) : Prop := ∀ j, 0 ≤ j → j < m 393 25 → mHs x m j = true
def Has (m : zSig) (c : Int32) : Prop := ∃ j, 0 ≤ j ∧ j < m 393 25 ∧ m 406 j = c
def PI (x : z3) (m : zSig) : Prop := AllH x m ∧ ∀ c, fKd c ≠ -1 → fMv (f3 x) (fKd c) ≠ -1 → Has m c
theorem W_io {a m : zSig} {b c : Int32} (h : WR a m b) (hc : fKd c ≠ -1) : wIo a (fKd c) = mIo m c := by
  obtain ⟨-, -, -, h4, h5, h6⟩ := h
  unfold wIo mIo
  rw [h4]
  refine zit_congr h5.1.1 (fun j y j0 j1 => ?_)
  rw [(h6 j j0 j1).1]
  exact if_i (fK_inj (h5.2.1 j j0 j1) hc)
theorem n1_b {n : Int32} (h0 : 0 ≤ n) (h5 : n ≤ 5) : 0 ≤ n + 1 ∧ n + 1 ≤ 8 ∧ ¬ 6 ≤ n ∧ n < n + 1 := by lia
theorem n1_j {n j : Int32} (h0 : 0 ≤ n) (h5 : n ≤ 5) (j1 : j < n + 1) (h : ¬ j = n) : j < n := by lia
theorem n1_i {n i j : Int32} (h0 : 0 ≤ n) (h5 : n ≤ 5) (ij : i < j) (j1 : j < n + 1) : i < n := by lia
theorem v48 {v : Int32} (h0 : 0 ≤ v) (h9 : v ≤ 9) : 0 ≤ 48 + v ∧ 48 + v ≤ 127 := by lia
theorem b_op {b : Int32} (b0 : 0 ≤ b) (b1 : b ≤ 90000) : b ≤ 100000 ∧ b + 1 ≤ 100000 ∧ b + 1 + 1 ≤ 100000 ∧ b + 1 + 1 + 1 ≤ 100000 ∧ b + 1 + 1 + 1 + 1 = b + 4 ∧ b + 1 + 1 + 1 ≤ b + 4 ∧ b ≤ b + 4 := by
  refine ⟨by lia, by lia, by lia, by lia, by grind, by lia, by lia⟩
def oM (m : zSig) (c d : Int32) : zSig := zup (zup (zup m 406 (m 393 25) c) 407 (m 393 25) d) 393 25 (m 393 25 + 1)
theorem oM_25 {m : zSig} {c d : Int32} : oM m c d 393 25 = m 393 25 + 1 := by unfold oM; rw [zup_s]
theorem oM_6 {m : zSig} {c d j : Int32} : oM m c d 406 j = if j = m 393 25 then c else m 406 j := by
  unfold oM; rw [zup_a (by decide), zup_a (by decide), zup_e]; simp only [true_and]
theorem oM_7 {m : zSig} {c d j : Int32} : oM m c d 407 j = if j = m 393 25 then d else m 407 j := by
  unfold oM; rw [zup_a (by decide), zup_e, zup_a (by decide)]; simp only [true_and]
theorem oM_o {m : zSig} {c d : Int32} {k : Nat} {j : Int32} (h : k ≠ 406) (h1 : k ≠ 407) (h2 : k ≠ 393 ∨ j ≠ 25) : oM m c d k j = m k j := by
  unfold oM; rw [zup_e, if_neg (fun q => h2.elim (fun g => g q.1) (fun g => g q.2)), zup_a h1, zup_a h]
theorem W_oM {a m : zSig} {b c d v : Int32} (h : WR a m b) (hc : fKd c ≠ -1) (hn : ∀ j, 0 ≤ j → j < m 393 25 → ¬ m 406 j = c) (hv : WV c v d) : WR (zup (zup (zup a 324 (a 322 4) (fKd c)) 325 (a 322 4) v) 322 4 (a 322 4 + 1)) (oM m c d) b := by
  have n5 := okO_5 h.2.2.2.2.1 hc hn
  obtain ⟨h1, h2, h3, h4, h5, h6⟩ := h
  obtain ⟨z0, z1, z2, z3⟩ := n1_b h5.1.1 n5
  refine ⟨okM_move h1 (fun j => by rw [zup_a (by decide), zup_a (by decide), zup_a (by decide)]), ?_, fun j j0 j1 j4 => ?_, by rw [zup_s, oM_25, h4], ⟨by rw [oM_25]; exact ⟨z0, z1⟩, fun j j0 j1 => ?_, fun i j i0 i1 j1 => ?_⟩, fun k k0 k1 => ?_⟩
  · rw [zup_i (by decide), zup_a (by decide), zup_a (by decide), oM_o (by decide) (by decide) (by decide)]; exact h2
  · rw [oM_o (by decide) (by decide) (by decide)] at j1
    rw [zup_a (by decide), zup_a (by decide), zup_a (by decide), oM_o (by decide) (by decide) (Or.inl (by decide))]; exact h3 j j0 j1 j4
  · rw [oM_25] at j1
    rw [oM_6]
    by_cases hj : j = m 393 25
    · rw [if_pos hj]; exact hc
    · rw [if_neg hj]; exact h5.2.1 j j0 (n1_j h5.1.1 n5 j1 hj)
  · rw [oM_25] at j1
    have hi := n1_i h5.1.1 n5 i1 j1
    rw [oM_6, oM_6, if_neg (lt_ne hi)]
    by_cases hj : j = m 393 25
    · rw [if_pos hj]; exact hn i i0 hi
    · rw [if_neg hj]; exact h5.2.2 i j i0 i1 (n1_j h5.1.1 n5 j1 hj)
  · rw [oM_25] at k1
    rw [zup_a (by decide), zup_a (by decide), zup_e, zup_a (by decide), zup_e, zup_a (by decide), oM_6, oM_7, h4]
    simp only [true_and]
    by_cases hj : k = m 393 25
    · rw [if_pos hj, if_pos hj, if_pos hj, if_pos hj]; exact ⟨rfl, hv⟩
    · rw [if_neg hj, if_neg hj, if_neg hj, if_neg hj]; exact h6 k k0 (n1_j h5.1.1 n5 k1 hj)
theorem hPn_f {m : zSig} {c d : Int32} {k : Nat} {j : Int32} (h : k ≠ 408) (h2 : k ≠ 393 ∨ j ≠ 27) : hPn m c d k j = oM m c d k j := by
  unfold hPn; rw [hPu_f h h2, hPu_f h h2]; rfl
/-! one mark, if the style asks for it -/
set_option maxHeartbeats 2000000 in
theorem W_op {a m : zSig} {b c d : Int32} {x : z3} {q : Bool} (h : WR a m b) (b1 : b ≤ 90000) (hx : inR x) (hc : fKd c ≠ -1) (hq : q = true ↔ fMv (f3 x) (fKd c) ≠ -1) (hd : fMv (f3 x) (fKd c) ≠ -1 → WV c (fMv (f3 x) (fKd c)) d) : WR (wOp (f3 x) (fKd c) a) (mOo q c d m) (b + 4) ∧ (AllH x m → AllH x (mOo q c d m)) ∧ (∀ e, Has m e → Has (mOo q c d m) e) ∧ (q = true → Has (mOo q c d m) c) := by
  obtain ⟨w1, w2, w3, w4, w5, w6, w7⟩ := b_op (WR_b h) b1
  have o := h.2.2.2.2.1
  by_cases hv : fMv (f3 x) (fKd c) = -1
  · have eq : ¬ q = true := fun g => hq.mp g hv
    have e1 : wOp (f3 x) (fKd c) a = a := if_pos (Or.inl hv)
    have e2 : mOo q c d m = m := if_neg eq
    rw [e1, e2]
    exact ⟨WR_le h w7, fun g => g, fun _ g => g, fun g => absurd g eq⟩
  · have eq := hq.mpr hv
    have e2 : mOo q c d m = hOpn c d m := if_pos eq
    rw [e2]
    rcases mIo_or (c := c) o.1.1 with ⟨i1, j, j0, j1, j2⟩ | ⟨i1, i2⟩
    · have e1 : wOp (f3 x) (fKd c) a = a := if_pos (Or.inr (Or.inl (by rw [W_io h hc, i1]; decide)))
      have e3 : hOpn c d m = m := if_pos (by rw [i1]; decide)
      rw [e1, e3]
      exact ⟨WR_le h w7, fun g => g, fun _ g => g, fun _ => ⟨j, j0, j1, j2⟩⟩
    · have n5 := okO_5 o hc i2
      obtain ⟨z0, z1, z2, z3⟩ := n1_b o.1.1 n5
      have e1 : wOp (f3 x) (fKd c) a = wAdd (if fKd c < 4 then wPu a (fKd c) (fMv (f3 x) (fKd c)) else wAdd (wPu a (fKd c) (fMv (f3 x) (fKd c))) (48 + fMv (f3 x) (fKd c))) 93 := if_neg (fun g => by
        rcases g with g | g | g
        · exact hv g
        · exact g (by rw [W_io h hc, i1])
        · rw [h.2.2.2.1] at g; exact z2 g)
      have e3 : hOpn c d m = hPu (if gFl c = 0 then hPu (hPn m c d) (48 + d) else hPn m c d) 93 := if_neg (fun g => g i1)
      have hw := hd hv
      have s0 := sgn h.1 hc
      have wp : WR (wPu a (fKd c) (fMv (f3 x) (fKd c))) (hPn m c d) (b + 1 + 1) := by
        unfold wPu hPn
        rw [s0.1]
        exact W_put (W_put (W_oM h hc i2 hw) w1 (by decide)) w2 s0.2
      have cel : ∀ k j, k ≠ 408 → (k ≠ 393 ∨ j ≠ 27) → hOpn c d m k j = oM m c d k j := fun k j g1 g2 => by
        rw [e3, hPu_f g1 g2]
        by_cases hg : gFl c = 0
        · rw [if_pos hg, hPu_f g1 g2, hPn_f g1 g2]
        · rw [if_neg hg, hPn_f g1 g2]
      have c25 : hOpn c d m 393 25 = m 393 25 + 1 := by rw [cel 393 25 (by decide) (by decide), oM_25]
      have c6 : ∀ j, hOpn c d m 406 j = if j = m 393 25 then c else m 406 j := fun j => by rw [cel 406 j (by decide) (Or.inl (by decide)), oM_6]
      have c7 : ∀ j, hOpn c d m 407 j = if j = m 393 25 then d else m 407 j := fun j => by rw [cel 407 j (by decide) (Or.inl (by decide)), oM_7]
      refine ⟨?_, fun g j j0 j1 => ?_, fun e g => ?_, fun _ => ⟨m 393 25, o.1.1, by rw [c25]; exact z3, by rw [c6, if_pos rfl]⟩⟩
      · rw [e1, e3]
        by_cases hg : gFl c = 0
        · have h4 : ¬ fKd c < 4 := Int32.not_lt.mpr ((fK_4 hc).mpr hg)
          have ed : fMv (f3 x) (fKd c) = d ∧ 0 ≤ d ∧ d ≤ 9 := by
            rcases fK_v hc with g | g | g | g | g | g
            · rw [g] at hg; exact absurd hg (by decide)
            · rw [g] at hg; exact absurd hg (by decide)
            · rw [g] at hg; exact absurd hg (by decide)
            · rw [g] at hg; exact absurd hg (by decide)
            · exact ⟨(hw.1 g).1, (hw.1 g).2.2⟩
            · exact ⟨(hw.2.1 g).1, (hw.2.1 g).2.2⟩
          rw [if_neg h4, if_pos hg]
          rw [ed.1] at wp ⊢
          rw [← w5]
          exact W_put (W_put wp w3 (v48 ed.2.1 ed.2.2)) w4 (by decide)
        · have h4 : fKd c < 4 := Int32.not_le.mp (fun g => hg ((fK_4 hc).mp g))
          rw [if_pos h4, if_neg hg]
          exact WR_le (W_put wp w3 (by decide)) w6
      · rw [c25] at j1
        by_cases hj : j = m 393 25
        · have k6 : hOpn c d m 406 j = c := by rw [c6, if_pos hj]
          have k7 : hOpn c d m 407 j = d := by rw [c7, if_pos hj]
          have := (H_al (m := hOpn c d m) (k := j) (v := fMv (f3 x) (fKd c)) hx (by rw [k6]; exact hc) (by rw [k6, k7]; exact hw)).mp (by rw [k6])
          exact this
        · rw [mHs_c (sg := m) (by rw [c6, if_neg hj]) (by rw [c7, if_neg hj])]
          exact g j j0 (n1_j o.1.1 n5 j1 hj)
      · obtain ⟨j, j0, j1, j2⟩ := g
        exact ⟨j, j0, by rw [c25]; exact Int32.lt_trans j1 z3, by rw [c6, if_neg (lt_ne j1)]; exact j2⟩

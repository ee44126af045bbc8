/-! the relation at the start, when all is made -/
theorem lt00 {j : Int32} (h0 : 0 ≤ j) (h1 : j < 0) : False := absurd (Int32.lt_of_le_of_lt h0 h1) (by decide)
theorem iv_ar {c : Nat} (h : (zSh c).1 = 0 + 1) (k : Int32) : zIv c k = 0 := by
  unfold zIv
  rw [show zSh c = (0 + 1, (zSh c).2.1, (zSh c).2.2) from Prod.ext h rfl]
  exact zIw_a
theorem R2_0 {s : zSig} (h : ∀ c j, c < 411 → s c j = zIv c j) (hm : okM s) : R2 s s := by
  have e12 : s 1 2 = 0 := by rw [h 1 2 (by decide)]; decide
  have e14 : s 1 4 = 0 := by rw [h 1 4 (by decide)]; decide
  have e16 : s 1 6 = 0 := by rw [h 1 6 (by decide)]; decide
  have r0 : s 395 0 = 0 := by rw [h 395 0 (by decide)]; decide
  have r1 : s 395 1 = 0 := by rw [h 395 1 (by decide)]; decide
  have r2 : s 395 2 = 0 := by rw [h 395 2 (by decide)]; decide
  have t1 : s 34 1 = 0 := by rw [h 34 1 (by decide)]; decide
  have t11 : s 393 11 = 0 := by rw [h 393 11 (by decide)]; decide
  have e362 : s 36 2 = 0 := by rw [h 36 2 (by decide)]; decide
  have e363 : s 36 3 = 0 := by rw [h 36 3 (by decide)]; decide
  have m6 : s 393 6 = 0 := by rw [h 393 6 (by decide)]; decide
  have g0 : s 0 10 = 0 := by rw [h 0 10 (by decide)]; decide
  have g1 : s 393 1 = 0 := by rw [h 393 1 (by decide)]; decide
  have g2 : s 317 3 = s 393 12 := by rw [h 317 3 (by decide), h 393 12 (by decide)]; decide
  have o0 : s 0 11 = 0 := by rw [h 0 11 (by decide)]; decide
  refine ⟨⟨SR_mk ⟨by rw [e12, r0], by rw [e14, r1], by rw [e16, r2]⟩ ⟨by rw [r0]; decide, by rw [r1]; decide, by rw [r2]; decide⟩ (fun i i0 i1 => ?_) (fun i i0 i1 => ?_) (fun i i0 i1 => ?_), ⟨by rw [e362]; decide, by rw [e363]; decide, by rw [m6, e363], fun n n0 n1 => ?_⟩, fun k k0 k1 => ?_, hm⟩, ⟨by rw [t1]; decide, by rw [t11, t1], fun j j0 j1 => ?_⟩, ⟨by rw [g0, g1], fun k k0 k1 => ?_, g2⟩, okF_0 o0⟩
  · rw [r0] at i1; exact (lt00 i0 i1).elim
  · rw [r1] at i1; exact (lt00 i0 i1).elim
  · rw [r2] at i1; exact (lt00 i0 i1).elim
  · rw [e363] at n1; exact absurd (Int32.le_trans n0 n1) (by decide)
  · have a : s 312 k = 0 := by rw [h 312 k (by decide)]; exact iv_ar (by decide) k
    have b : s 400 k = 0 := by rw [h 400 k (by decide)]; exact iv_ar (by decide) k
    rw [a, b]; exact ⟨rfl, fun q => absurd rfl q⟩
  · rw [t1] at j1; exact (lt00 j0 j1).elim
  · have a : s 326 k = 0 := by rw [h 326 k (by decide)]; exact iv_ar (by decide) k
    have b : s 394 k = 0 := by rw [h 394 k (by decide)]; exact iv_ar (by decide) k
    rw [a, b]

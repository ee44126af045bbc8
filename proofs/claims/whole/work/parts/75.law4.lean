/-! the law: its loop -/
theorem lp_hi {i L : Int32} (i0 : 0 ≤ i) (l0 : 0 ≤ L) (l1 : L ≤ 4608) (c : ¬ (L - 9 < i)) : (∀ j, 0 ≤ j → j ≤ 8 → 0 ≤ i + j ∧ i + j < L) ∧ (0 ≤ i ∧ i < L) ∧ 0 ≤ i + 9 ∧ i + 9 ≤ 5000 ∧ i < i + 9 := by
  have a : i ≤ L - 9 := Int32.not_lt.mp c
  have b : L - 9 ≤ 4599 := by lia
  have d : i ≤ 4599 := Int32.le_trans a b
  refine ⟨fun j j0 j1 => ⟨by lia, by lia⟩, ⟨i0, by lia⟩, by lia, by lia, by lia⟩

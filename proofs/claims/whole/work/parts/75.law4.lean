/-! the law: its loop -/
theorem lp_hi {i L : Int32} (i0 : 0 ≤ i) (l0 : 0 ≤ L) (l1 : L ≤ 4608) (c : ¬ (L - 9 < i)) : (∀ j, 0 ≤ j → j ≤ 8 → 0 ≤ i + j ∧ i + j < L) ∧ (0 ≤ i ∧ i < L) ∧ 0 ≤ i + 9 ∧ i + 9 ≤ 5000 ∧ i < i + 9 := by
  have a : i ≤ L - 9 := Int32.not_lt.mp c
  have b : L - 9 ≤ 4599 := by lia
  have d : i ≤ 4599 := Int32.le_trans a b
  refine ⟨fun j j0 j1 => ⟨by lia, by lia⟩, ⟨i0, by lia⟩, by lia, by lia, by lia⟩
theorem law_loop {Q : Option Value → zHp → Prop} (hE : ∀ (sg : zSig) (i : Int32), zG mLaw_law 411 Q 1533 [(0, .ref 100001), (1, .ref 0), (2, .ref 393), (3, .int i)] [] (zN sg)) : ∀ a : Int32 × zSig, (R2 a.2 a.2 ∧ 0 ≤ a.1 ∧ a.1 ≤ 5000 ∧ 0 ≤ a.2 100001 (-1) ∧ a.2 100001 (-1) ≤ 4608) → zG mLaw_law 411 Q 18 [(0, .ref 100001), (1, .ref 0), (2, .ref 393), (3, .int a.1)] [] (zN a.2) := by
  refine zlp1 (A := Int32 × zSig) (fun a => zG mLaw_law 411 Q 18 [(0, .ref 100001), (1, .ref 0), (2, .ref 393), (3, .int a.1)] [] (zN a.2)) (fun a => R2 a.2 a.2 ∧ 0 ≤ a.1 ∧ a.1 ≤ 5000 ∧ 0 ≤ a.2 100001 (-1) ∧ a.2 100001 (-1) ≤ 4608) (fun a => zmu 5000 a.1) (fun a hI ih => ?_)
  obtain ⟨i, sg⟩ := a
  obtain ⟨h, i0, i1, l0, l1⟩ := hI
  refine zb_icgt (tgt := 1533) bkL_18 bdL_24 (by decide) (lv' := [(0, .ref 100001), (1, .ref 0), (2, .ref 393), (3, .int i)]) (st' := []) (h' := zN sg) (x := i) (y := sg 100001 (-1) - 9) (Ps := [(100001 < (zN sg).2.1 ∧ (zSh 100001).1 = 1 ∧ (zSh 100001).2.1 < 3) ∨ 100001 = 100000 ∨ 100001 = 100001]) rfl (zA (Or.inr (Or.inr rfl)) trivial) (fun c => ?_) (fun c => ?_)
  · exact hE sg i
  · obtain ⟨w1, w2, w3, w4, w5⟩ := lp_hi i0 l0 l1 c
    refine zG_run bkL_27 (lv' := [(0, .ref 100001), (1, .ref 0), (2, .ref 393), (3, .int i)]) (st' := [.int (sg 100001 i &&& 63)]) (h' := zN sg) (Ps := [zInL (zN sg) 100001 i]) rfl (zA (lin w2) trivial) (law_switch h w1 (fun sg' h' e => ?_))
    refine zG_run bkL_1527 (lv' := [(3, .int (i + 9)), (0, .ref 100001), (1, .ref 0), (2, .ref 393)]) (st' := []) (h' := zN sg') (Ps := []) rfl trivial ?_
    refine zG_pick (lv' := [(0, .ref 100001), (1, .ref 0), (2, .ref 393), (3, .int (i + 9))]) [1, 2, 3, 0] rfl ?_
    exact ih (i + 9, sg') ⟨h', w3, w4, by show 0 ≤ sg' 100001 (-1); rw [e]; exact l0, by show sg' 100001 (-1) ≤ 4608; rw [e]; exact l1⟩ (zmu_lt w5 w4)

/-! the law: its case follow -/
theorem bkL31_a : zBk mLaw_law 1277 [(1, 1, 1, 0, 0), (1, 0, 1, 0, 0), (1, 3, 0, 0, 0), (0, 0, 0, 0, 1), (4, 0, 0, 0, 0), (7, 0, 0, 0, 0), (1, 0, 1, 0, 0), (1, 3, 0, 0, 0), (0, 0, 0, 0, 2), (4, 0, 0, 0, 0), (7, 0, 0, 0, 0), (1, 0, 1, 0, 0), (1, 3, 0, 0, 0), (0, 0, 0, 0, 3), (4, 0, 0, 0, 0), (7, 0, 0, 0, 0), (1, 0, 1, 0, 0), (1, 3, 0, 0, 0), (0, 0, 0, 0, 4), (4, 0, 0, 0, 0), (7, 0, 0, 0, 0), (1, 0, 1, 0, 0), (1, 3, 0, 0, 0), (0, 0, 0, 0, 5), (4, 0, 0, 0, 0), (7, 0, 0, 0, 0)] = some 1303 := by decide +kernel
theorem bkL31_b : zBk mLaw_law 1314 [(1, 2, 1, 0, 0), (1, 0, 1, 0, 0), (1, 3, 0, 0, 0), (0, 0, 0, 0, 1), (4, 0, 0, 0, 0), (7, 0, 0, 0, 0), (1, 0, 1, 0, 0), (1, 3, 0, 0, 0), (0, 0, 0, 0, 2), (4, 0, 0, 0, 0), (7, 0, 0, 0, 0), (1, 0, 1, 0, 0), (1, 3, 0, 0, 0), (0, 0, 0, 0, 3), (4, 0, 0, 0, 0), (7, 0, 0, 0, 0), (1, 0, 1, 0, 0), (1, 3, 0, 0, 0), (0, 0, 0, 0, 4), (4, 0, 0, 0, 0), (7, 0, 0, 0, 0), (1, 0, 1, 0, 0), (1, 3, 0, 0, 0), (0, 0, 0, 0, 5), (4, 0, 0, 0, 0), (7, 0, 0, 0, 0)] = some 1340 := by decide +kernel
theorem bkL31_a1 : zBk mLaw_law 1306 [(0, 0, 0, 0, 1), (22, 1311, 0, 0, 0)] = some 1311 := by decide +kernel
theorem bkL31_a0 : zBk mLaw_law 1310 [(0, 0, 0, 0, 0)] = some 1311 := by decide +kernel
theorem bkL31_b1 : zBk mLaw_law 1343 [(0, 0, 0, 0, 1), (22, 1348, 0, 0, 0)] = some 1348 := by decide +kernel
theorem bkL31_b0 : zBk mLaw_law 1347 [(0, 0, 0, 0, 0)] = some 1348 := by decide +kernel
theorem bkL31_c : zBk mLaw_law 1351 [] = some 1351 := by decide +kernel
theorem bdL31_a : decode mLaw_law.2.2.1 1311 = .ok (.invokevirtual 144, 3) := by decide +kernel
theorem bdL31_b : decode mLaw_law.2.2.1 1348 = .ok (.invokevirtual 148, 3) := by decide +kernel
theorem bdL31_c : decode mLaw_law.2.2.1 1351 = .ok (.if_icmp .eq 176, 3) := by decide +kernel
theorem bdL31_i : decode mLaw_law.2.2.1 1303 = .ok (.ifCond .eq 7, 3) := by decide +kernel
theorem bdL31_j : decode mLaw_law.2.2.1 1340 = .ok (.ifCond .eq 7, 3) := by decide +kernel
set_option maxHeartbeats 2000000 in
theorem law_follow1 {sg : zSig} {i b : Int32} {Q : Option Value → zHp → Prop} (h : R2 sg sg) (hi : ∀ j, 0 ≤ j → j ≤ 8 → 0 ≤ i + j ∧ i + j < sg 100001 (-1)) (kk : ∀ sg', R2 sg' sg' → (∀ j, sg' 100001 j = sg 100001 j) → zG mLaw_law 411 Q 1527 [(0, .ref 100001), (1, .ref 0), (2, .ref 393), (3, .int i)] [] (zN sg')) (hb0 : (sg 100001 (i + 5) = 0 ∧ b = 0) ∨ (¬ sg 100001 (i + 5) = 0 ∧ b = 1)) : zG mLaw_law 411 Q 1311 [(0, .ref 100001), (1, .ref 0), (2, .ref 393), (3, .int i)] [.int b, .int (sg 100001 (i + 4)), .int (sg 100001 (i + 3)), .int (sg 100001 (i + 2)), .int (sg 100001 (i + 1)), .ref 0] (zN sg) := by
  refine zG_callv (a := 0) (c := 9) (As := [.int (sg 100001 (i + 1)), .int (sg 100001 (i + 2)), .int (sg 100001 (i + 3)), .int (sg 100001 (i + 4)), .int b]) (rest := []) (N2 := 411) bdL31_a okSR_follow lk13_144 (And.intro (by decide) (by decide)) (by decide) rfl rfl rfl (Nat.le_of_ble_eq_true rfl) (Nat.le_of_ble_eq_true rfl) (Nat.le_refl 411) (Nat.le_refl 411) zob_0 cSR_follow ?_
  intro rr h' hP _
  obtain ⟨v, s1, rfl, rfl, hf, hK⟩ := K_follow rr h' hP
  have e : ∀ j, s1 100001 j = sg 100001 j := fun j => hf 100001 j (by decide)
  have hT : R2 sg (zup s1 393 0 0) := law_T h hf
  have fin : zG mLaw_law 411 Q 1348 [(0, .ref 100001), (1, .ref 0), (2, .ref 393), (3, .int i)] [.int b, .int (sg 100001 (i + 4)), .int (sg 100001 (i + 3)), .int (sg 100001 (i + 2)), .int (sg 100001 (i + 1)), .ref 393, .int v] (zN s1) := by
    refine zG_callv (a := 393) (c := 10) (As := [.int (sg 100001 (i + 1)), .int (sg 100001 (i + 2)), .int (sg 100001 (i + 3)), .int (sg 100001 (i + 4)), .int b]) (rest := [.int v]) (N2 := 411) bdL31_b okMo_follow lk13_148 (And.intro (by decide) (by decide)) (by decide) rfl rfl rfl (Nat.le_of_ble_eq_true rfl) (Nat.le_of_ble_eq_true rfl) (Nat.le_refl 411) (Nat.le_refl 411) zob_393 (tMo_follow bMo_follow) ?_
    intro rr2 h2 hP2 _
    obtain ⟨t2, rfl, rfl, hR, hf2⟩ := hK _ rr2 h2 hT hP2
    refine zb_iceq (tgt := 1527) bkL31_c bdL31_c (by decide) (lv' := [(0, .ref 100001), (1, .ref 0), (2, .ref 393), (3, .int i)]) (st' := []) (h' := zN t2) (x := v) (y := v) (Ps := []) rfl trivial (fun _ => ?_) (fun q => absurd rfl q)
    exact kk t2 (law_R hR hf2) (law_s e hf2)
  refine zb_ifeq (tgt := 1347) bkL31_b bdL31_j (by decide) (lv' := [(0, .ref 100001), (1, .ref 0), (2, .ref 393), (3, .int i)]) (st' := [.int (s1 100001 (i + 4)), .int (s1 100001 (i + 3)), .int (s1 100001 (i + 2)), .int (s1 100001 (i + 1)), .ref 393, .int v]) (h' := zN s1) (x := s1 100001 (i + 5)) (Ps := [zInL (zN s1) 100001 (i + 1), zInL (zN s1) 100001 (i + 2), zInL (zN s1) 100001 (i + 3), zInL (zN s1) 100001 (i + 4), zInL (zN s1) 100001 (i + 5)]) rfl (zA (lin (law_e e (hi 1 (by decide) (by decide)))) (zA (lin (law_e e (hi 2 (by decide) (by decide)))) (zA (lin (law_e e (hi 3 (by decide) (by decide)))) (zA (lin (law_e e (hi 4 (by decide) (by decide)))) (zA (lin (law_e e (hi 5 (by decide) (by decide)))) trivial))))) (fun c => ?_) (fun c => ?_)
  · simp only [e] at c ⊢
    rcases hb0 with ⟨-, rfl⟩ | ⟨q, -⟩
    · exact zG_run bkL31_b0 (lv' := [(0, .ref 100001), (1, .ref 0), (2, .ref 393), (3, .int i)]) (st' := [.int 0, .int (sg 100001 (i + 4)), .int (sg 100001 (i + 3)), .int (sg 100001 (i + 2)), .int (sg 100001 (i + 1)), .ref 393, .int v]) (h' := zN s1) (Ps := []) rfl trivial fin
    · exact absurd c q
  · simp only [e] at c ⊢
    rcases hb0 with ⟨q, -⟩ | ⟨-, rfl⟩
    · exact absurd q c
    · exact zG_run bkL31_b1 (lv' := [(0, .ref 100001), (1, .ref 0), (2, .ref 393), (3, .int i)]) (st' := [.int 1, .int (sg 100001 (i + 4)), .int (sg 100001 (i + 3)), .int (sg 100001 (i + 2)), .int (sg 100001 (i + 1)), .ref 393, .int v]) (h' := zN s1) (Ps := []) rfl trivial fin
set_option maxHeartbeats 2000000 in
theorem law_follow {sg : zSig} {i : Int32} {Q : Option Value → zHp → Prop} (h : R2 sg sg) (hi : ∀ j, 0 ≤ j → j ≤ 8 → 0 ≤ i + j ∧ i + j < sg 100001 (-1)) (kk : ∀ sg', R2 sg' sg' → (∀ j, sg' 100001 j = sg 100001 j) → zG mLaw_law 411 Q 1527 [(0, .ref 100001), (1, .ref 0), (2, .ref 393), (3, .int i)] [] (zN sg')) : zG mLaw_law 411 Q 1277 [(0, .ref 100001), (1, .ref 0), (2, .ref 393), (3, .int i)] [] (zN sg) := by
  refine zb_ifeq (tgt := 1310) bkL31_a bdL31_i (by decide) (lv' := [(0, .ref 100001), (1, .ref 0), (2, .ref 393), (3, .int i)]) (st' := [.int (sg 100001 (i + 4)), .int (sg 100001 (i + 3)), .int (sg 100001 (i + 2)), .int (sg 100001 (i + 1)), .ref 0]) (h' := zN sg) (x := sg 100001 (i + 5)) (Ps := [zInL (zN sg) 100001 (i + 1), zInL (zN sg) 100001 (i + 2), zInL (zN sg) 100001 (i + 3), zInL (zN sg) 100001 (i + 4), zInL (zN sg) 100001 (i + 5)]) rfl (zA (lin (hi 1 (by decide) (by decide))) (zA (lin (hi 2 (by decide) (by decide))) (zA (lin (hi 3 (by decide) (by decide))) (zA (lin (hi 4 (by decide) (by decide))) (zA (lin (hi 5 (by decide) (by decide))) trivial))))) (fun c => ?_) (fun c => ?_)
  · exact zG_run bkL31_a0 (lv' := [(0, .ref 100001), (1, .ref 0), (2, .ref 393), (3, .int i)]) (st' := [.int 0, .int (sg 100001 (i + 4)), .int (sg 100001 (i + 3)), .int (sg 100001 (i + 2)), .int (sg 100001 (i + 1)), .ref 0]) (h' := zN sg) (Ps := []) rfl trivial (law_follow1 h hi kk (Or.inl ⟨c, rfl⟩))
  · exact zG_run bkL31_a1 (lv' := [(0, .ref 100001), (1, .ref 0), (2, .ref 393), (3, .int i)]) (st' := [.int 1, .int (sg 100001 (i + 4)), .int (sg 100001 (i + 3)), .int (sg 100001 (i + 2)), .int (sg 100001 (i + 1)), .ref 0]) (h' := zN sg) (Ps := []) rfl trivial (law_follow1 h hi kk (Or.inr ⟨c, rfl⟩))

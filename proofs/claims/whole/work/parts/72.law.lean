/-! the law: a case of its switch -/
theorem lin {s : zSig} {j : Int32} (h : 0 ≤ j ∧ j < s 100001 (-1)) : zInL (zN s) 100001 j := Or.inr (Or.inr ⟨rfl, h.1, h.2⟩)
theorem law_e {s s1 : zSig} {j : Int32} (e : ∀ j, s1 100001 j = s 100001 j) (h : 0 ≤ j ∧ j < s 100001 (-1)) : 0 ≤ j ∧ j < s1 100001 (-1) := by rw [e]; exact h
theorem law_T {s s1 : zSig} (h : R2 s s) (hf : ∀ c j, 393 ≤ c → s1 c j = s c j) : R2 s (zup s1 393 0 0) := R2_t h (fun c j a _ d => by
  rw [zup_e, if_neg (fun q => d.elim (fun g => g q.1) (fun g => g q.2))]; exact hf c j a)
theorem law_u {s t : zSig} (h : R2 s t) : (0 ≤ t 393 6 ∧ t 393 6 ≤ 8) ∧ 0 ≤ t 393 11 ∧ t 393 11 ≤ 400 := by
  rw [h.1.2.1.2.2.1, h.2.1.2.1]; exact ⟨h.1.2.1.2.1, h.2.1.1⟩
theorem law_R {s1 t2 : zSig} (h : R2 s1 t2) (hf : ∀ c j, c < 393 ∨ 411 ≤ c → t2 c j = zup s1 393 0 0 c j) : R2 t2 t2 := R2_s h (fun c j q => by
  rw [hf c j (by omega), zup_a (by omega)])
theorem law_s {s s1 t2 : zSig} (e : ∀ j, s1 100001 j = s 100001 j) (hf : ∀ c j, c < 393 ∨ 411 ≤ c → t2 c j = zup s1 393 0 0 c j) (j : Int32) : t2 100001 j = s 100001 j := by
  rw [hf 100001 j (by decide), zup_a (by decide)]; exact e j
theorem bkL0_a : zBk mLaw_law 204 [(1, 1, 1, 0, 0), (1, 0, 1, 0, 0), (1, 3, 0, 0, 0), (0, 0, 0, 0, 1), (4, 0, 0, 0, 0), (7, 0, 0, 0, 0), (1, 0, 1, 0, 0), (1, 3, 0, 0, 0), (0, 0, 0, 0, 2), (4, 0, 0, 0, 0), (7, 0, 0, 0, 0), (1, 0, 1, 0, 0), (1, 3, 0, 0, 0), (0, 0, 0, 0, 3), (4, 0, 0, 0, 0), (7, 0, 0, 0, 0), (1, 0, 1, 0, 0), (1, 3, 0, 0, 0), (0, 0, 0, 0, 4), (4, 0, 0, 0, 0), (7, 0, 0, 0, 0), (1, 0, 1, 0, 0), (1, 3, 0, 0, 0), (0, 0, 0, 0, 5), (4, 0, 0, 0, 0), (7, 0, 0, 0, 0)] = some 230 := by decide +kernel
theorem bkL0_b : zBk mLaw_law 233 [(1, 2, 1, 0, 0), (1, 0, 1, 0, 0), (1, 3, 0, 0, 0), (0, 0, 0, 0, 1), (4, 0, 0, 0, 0), (7, 0, 0, 0, 0), (1, 0, 1, 0, 0), (1, 3, 0, 0, 0), (0, 0, 0, 0, 2), (4, 0, 0, 0, 0), (7, 0, 0, 0, 0), (1, 0, 1, 0, 0), (1, 3, 0, 0, 0), (0, 0, 0, 0, 3), (4, 0, 0, 0, 0), (7, 0, 0, 0, 0), (1, 0, 1, 0, 0), (1, 3, 0, 0, 0), (0, 0, 0, 0, 4), (4, 0, 0, 0, 0), (7, 0, 0, 0, 0), (1, 0, 1, 0, 0), (1, 3, 0, 0, 0), (0, 0, 0, 0, 5), (4, 0, 0, 0, 0), (7, 0, 0, 0, 0)] = some 259 := by decide +kernel
theorem bkL0_c : zBk mLaw_law 262 [] = some 262 := by decide +kernel
theorem bdL0_a : decode mLaw_law.2.2.1 230 = .ok (.invokevirtual 13, 3) := by decide +kernel
theorem bdL0_b : decode mLaw_law.2.2.1 259 = .ok (.invokevirtual 17, 3) := by decide +kernel
theorem bdL0_c : decode mLaw_law.2.2.1 262 = .ok (.if_icmp .eq 1265, 3) := by decide +kernel
set_option maxHeartbeats 2000000 in
theorem law_feed {sg : zSig} {i : Int32} {Q : Option Value → zHp → Prop} (h : R2 sg sg) (hi : ∀ j, 0 ≤ j → j ≤ 8 → 0 ≤ i + j ∧ i + j < sg 100001 (-1)) (kk : ∀ sg', R2 sg' sg' → (∀ j, sg' 100001 j = sg 100001 j) → zG mLaw_law 411 Q 1527 [(0, .ref 100001), (1, .ref 0), (2, .ref 393), (3, .int i)] [] (zN sg')) : zG mLaw_law 411 Q 204 [(0, .ref 100001), (1, .ref 0), (2, .ref 393), (3, .int i)] [] (zN sg) := by
  refine zG_run bkL0_a (lv' := [(0, .ref 100001), (1, .ref 0), (2, .ref 393), (3, .int i)]) (st' := [.int (sg 100001 (i + 5)), .int (sg 100001 (i + 4)), .int (sg 100001 (i + 3)), .int (sg 100001 (i + 2)), .int (sg 100001 (i + 1)), .ref 0]) (h' := zN sg) (Ps := [zInL (zN sg) 100001 (i + 1), zInL (zN sg) 100001 (i + 2), zInL (zN sg) 100001 (i + 3), zInL (zN sg) 100001 (i + 4), zInL (zN sg) 100001 (i + 5)]) rfl (zA (lin (hi 1 (by decide) (by decide))) (zA (lin (hi 2 (by decide) (by decide))) (zA (lin (hi 3 (by decide) (by decide))) (zA (lin (hi 4 (by decide) (by decide))) (zA (lin (hi 5 (by decide) (by decide))) trivial))))) ?_
  refine zG_callv (a := 0) (c := 9) (As := [.int (sg 100001 (i + 1)), .int (sg 100001 (i + 2)), .int (sg 100001 (i + 3)), .int (sg 100001 (i + 4)), .int (sg 100001 (i + 5))]) (rest := []) (N2 := 411) bdL0_a okSR_feed lk13_13 (And.intro (by decide) (by decide)) (by decide) rfl rfl rfl (Nat.le_of_ble_eq_true rfl) (Nat.le_of_ble_eq_true rfl) (Nat.le_refl 411) (Nat.le_refl 411) zob_0 (cSR_feed h.2.1.1.1 h.2.1.1.2) ?_
  intro rr h' hP _
  obtain ⟨v, s1, rfl, rfl, hf, hK⟩ := K_feed h rr h' hP
  have e : ∀ j, s1 100001 j = sg 100001 j := fun j => hf 100001 j (by decide)
  have hT : R2 sg (zup s1 393 0 0) := law_T h hf
  have hb := SR_b hT.1.1
  obtain ⟨u6, u11⟩ := law_u hT
  refine zG_run bkL0_b (lv' := [(0, .ref 100001), (1, .ref 0), (2, .ref 393), (3, .int i)]) (st' := [.int (s1 100001 (i + 5)), .int (s1 100001 (i + 4)), .int (s1 100001 (i + 3)), .int (s1 100001 (i + 2)), .int (s1 100001 (i + 1)), .ref 393, .int v]) (h' := zN s1) (Ps := [zInL (zN s1) 100001 (i + 1), zInL (zN s1) 100001 (i + 2), zInL (zN s1) 100001 (i + 3), zInL (zN s1) 100001 (i + 4), zInL (zN s1) 100001 (i + 5)]) rfl (zA (lin (law_e e (hi 1 (by decide) (by decide)))) (zA (lin (law_e e (hi 2 (by decide) (by decide)))) (zA (lin (law_e e (hi 3 (by decide) (by decide)))) (zA (lin (law_e e (hi 4 (by decide) (by decide)))) (zA (lin (law_e e (hi 5 (by decide) (by decide)))) trivial))))) ?_
  simp only [e]
  refine zG_callv (a := 393) (c := 10) (As := [.int (sg 100001 (i + 1)), .int (sg 100001 (i + 2)), .int (sg 100001 (i + 3)), .int (sg 100001 (i + 4)), .int (sg 100001 (i + 5))]) (rest := [.int v]) (N2 := 411) bdL0_b okMo_feed lk13_17 (And.intro (by decide) (by decide)) (by decide) rfl rfl rfl (Nat.le_of_ble_eq_true rfl) (Nat.le_of_ble_eq_true rfl) (Nat.le_refl 411) (Nat.le_refl 411) zob_393 (tMo_feed (bMo_feed u11.1 u11.2)) ?_
  intro rr2 h2 hP2 _
  obtain ⟨t2, rfl, rfl, hR, hf2⟩ := hK _ rr2 h2 hT hP2
  refine zb_iceq (tgt := 1527) bkL0_c bdL0_c (by decide) (lv' := [(0, .ref 100001), (1, .ref 0), (2, .ref 393), (3, .int i)]) (st' := []) (h' := zN t2) (x := v) (y := v) (Ps := []) rfl trivial (fun _ => ?_) (fun q => absurd rfl q)
  exact kk t2 (law_R hR hf2) (law_s e hf2)
theorem bkL1_a : zBk mLaw_law 267 [(1, 1, 1, 0, 0), (1, 0, 1, 0, 0), (1, 3, 0, 0, 0), (0, 0, 0, 0, 1), (4, 0, 0, 0, 0), (7, 0, 0, 0, 0)] = some 273 := by decide +kernel
theorem bkL1_b : zBk mLaw_law 276 [(1, 2, 1, 0, 0), (1, 0, 1, 0, 0), (1, 3, 0, 0, 0), (0, 0, 0, 0, 1), (4, 0, 0, 0, 0), (7, 0, 0, 0, 0)] = some 282 := by decide +kernel
theorem bkL1_c : zBk mLaw_law 285 [] = some 285 := by decide +kernel
theorem bdL1_a : decode mLaw_law.2.2.1 273 = .ok (.invokevirtual 18, 3) := by decide +kernel
theorem bdL1_b : decode mLaw_law.2.2.1 282 = .ok (.invokevirtual 22, 3) := by decide +kernel
theorem bdL1_c : decode mLaw_law.2.2.1 285 = .ok (.if_icmp .eq 1242, 3) := by decide +kernel
set_option maxHeartbeats 2000000 in
theorem law_end {sg : zSig} {i : Int32} {Q : Option Value → zHp → Prop} (h : R2 sg sg) (hi : ∀ j, 0 ≤ j → j ≤ 8 → 0 ≤ i + j ∧ i + j < sg 100001 (-1)) (kk : ∀ sg', R2 sg' sg' → (∀ j, sg' 100001 j = sg 100001 j) → zG mLaw_law 411 Q 1527 [(0, .ref 100001), (1, .ref 0), (2, .ref 393), (3, .int i)] [] (zN sg')) : zG mLaw_law 411 Q 267 [(0, .ref 100001), (1, .ref 0), (2, .ref 393), (3, .int i)] [] (zN sg) := by
  refine zG_run bkL1_a (lv' := [(0, .ref 100001), (1, .ref 0), (2, .ref 393), (3, .int i)]) (st' := [.int (sg 100001 (i + 1)), .ref 0]) (h' := zN sg) (Ps := [zInL (zN sg) 100001 (i + 1)]) rfl (zA (lin (hi 1 (by decide) (by decide))) trivial) ?_
  refine zG_callv (a := 0) (c := 9) (As := [.int (sg 100001 (i + 1))]) (rest := []) (N2 := 411) bdL1_a okSR_end lk13_18 (And.intro (by decide) (by decide)) (by decide) rfl rfl rfl (Nat.le_of_ble_eq_true rfl) (Nat.le_of_ble_eq_true rfl) (Nat.le_refl 411) (Nat.le_refl 411) zob_0 (cSR_end ) ?_
  intro rr h' hP _
  obtain ⟨v, s1, rfl, rfl, hf, hK⟩ := K_end h rr h' hP
  have e : ∀ j, s1 100001 j = sg 100001 j := fun j => hf 100001 j (by decide)
  have hT : R2 sg (zup s1 393 0 0) := law_T h hf
  have hb := SR_b hT.1.1
  obtain ⟨u6, u11⟩ := law_u hT
  refine zG_run bkL1_b (lv' := [(0, .ref 100001), (1, .ref 0), (2, .ref 393), (3, .int i)]) (st' := [.int (s1 100001 (i + 1)), .ref 393, .int v]) (h' := zN s1) (Ps := [zInL (zN s1) 100001 (i + 1)]) rfl (zA (lin (law_e e (hi 1 (by decide) (by decide)))) trivial) ?_
  simp only [e]
  refine zG_callv (a := 393) (c := 10) (As := [.int (sg 100001 (i + 1))]) (rest := [.int v]) (N2 := 411) bdL1_b okMo_end lk13_22 (And.intro (by decide) (by decide)) (by decide) rfl rfl rfl (Nat.le_of_ble_eq_true rfl) (Nat.le_of_ble_eq_true rfl) (Nat.le_refl 411) (Nat.le_refl 411) zob_393 (tMo_end (bMo_end )) ?_
  intro rr2 h2 hP2 _
  obtain ⟨t2, rfl, rfl, hR, hf2⟩ := hK _ rr2 h2 hT hP2
  refine zb_iceq (tgt := 1527) bkL1_c bdL1_c (by decide) (lv' := [(0, .ref 100001), (1, .ref 0), (2, .ref 393), (3, .int i)]) (st' := []) (h' := zN t2) (x := v) (y := v) (Ps := []) rfl trivial (fun _ => ?_) (fun q => absurd rfl q)
  exact kk t2 (law_R hR hf2) (law_s e hf2)
theorem bkL2_a : zBk mLaw_law 290 [(1, 1, 1, 0, 0), (1, 0, 1, 0, 0), (1, 3, 0, 0, 0), (0, 0, 0, 0, 1), (4, 0, 0, 0, 0), (7, 0, 0, 0, 0)] = some 296 := by decide +kernel
theorem bkL2_b : zBk mLaw_law 299 [(1, 2, 1, 0, 0), (1, 0, 1, 0, 0), (1, 3, 0, 0, 0), (0, 0, 0, 0, 1), (4, 0, 0, 0, 0), (7, 0, 0, 0, 0)] = some 305 := by decide +kernel
theorem bkL2_c : zBk mLaw_law 308 [] = some 308 := by decide +kernel
theorem bdL2_a : decode mLaw_law.2.2.1 296 = .ok (.invokevirtual 23, 3) := by decide +kernel
theorem bdL2_b : decode mLaw_law.2.2.1 305 = .ok (.invokevirtual 26, 3) := by decide +kernel
theorem bdL2_c : decode mLaw_law.2.2.1 308 = .ok (.if_icmp .eq 1219, 3) := by decide +kernel
set_option maxHeartbeats 2000000 in
theorem law_tape {sg : zSig} {i : Int32} {Q : Option Value → zHp → Prop} (h : R2 sg sg) (hi : ∀ j, 0 ≤ j → j ≤ 8 → 0 ≤ i + j ∧ i + j < sg 100001 (-1)) (kk : ∀ sg', R2 sg' sg' → (∀ j, sg' 100001 j = sg 100001 j) → zG mLaw_law 411 Q 1527 [(0, .ref 100001), (1, .ref 0), (2, .ref 393), (3, .int i)] [] (zN sg')) : zG mLaw_law 411 Q 290 [(0, .ref 100001), (1, .ref 0), (2, .ref 393), (3, .int i)] [] (zN sg) := by
  refine zG_run bkL2_a (lv' := [(0, .ref 100001), (1, .ref 0), (2, .ref 393), (3, .int i)]) (st' := [.int (sg 100001 (i + 1)), .ref 0]) (h' := zN sg) (Ps := [zInL (zN sg) 100001 (i + 1)]) rfl (zA (lin (hi 1 (by decide) (by decide))) trivial) ?_
  refine zG_callv (a := 0) (c := 9) (As := [.int (sg 100001 (i + 1))]) (rest := []) (N2 := 411) bdL2_a okSR_tape lk13_23 (And.intro (by decide) (by decide)) (by decide) rfl rfl rfl (Nat.le_of_ble_eq_true rfl) (Nat.le_of_ble_eq_true rfl) (Nat.le_refl 411) (Nat.le_refl 411) zob_0 (cSR_tape h.2.1.1.2) ?_
  intro rr h' hP _
  obtain ⟨v, s1, rfl, rfl, hf, hK⟩ := K_tape rr h' hP
  have e : ∀ j, s1 100001 j = sg 100001 j := fun j => hf 100001 j (by decide)
  have hT : R2 sg (zup s1 393 0 0) := law_T h hf
  have hb := SR_b hT.1.1
  obtain ⟨u6, u11⟩ := law_u hT
  refine zG_run bkL2_b (lv' := [(0, .ref 100001), (1, .ref 0), (2, .ref 393), (3, .int i)]) (st' := [.int (s1 100001 (i + 1)), .ref 393, .int v]) (h' := zN s1) (Ps := [zInL (zN s1) 100001 (i + 1)]) rfl (zA (lin (law_e e (hi 1 (by decide) (by decide)))) trivial) ?_
  simp only [e]
  refine zG_callv (a := 393) (c := 10) (As := [.int (sg 100001 (i + 1))]) (rest := [.int v]) (N2 := 411) bdL2_b okMo_tape lk13_26 (And.intro (by decide) (by decide)) (by decide) rfl rfl rfl (Nat.le_of_ble_eq_true rfl) (Nat.le_of_ble_eq_true rfl) (Nat.le_refl 411) (Nat.le_refl 411) zob_393 (tMo_tape (bMo_tape u11.1 u11.2)) ?_
  intro rr2 h2 hP2 _
  obtain ⟨t2, rfl, rfl, hR, hf2⟩ := hK _ rr2 h2 hT hP2
  refine zb_iceq (tgt := 1527) bkL2_c bdL2_c (by decide) (lv' := [(0, .ref 100001), (1, .ref 0), (2, .ref 393), (3, .int i)]) (st' := []) (h' := zN t2) (x := v) (y := v) (Ps := []) rfl trivial (fun _ => ?_) (fun q => absurd rfl q)
  exact kk t2 (law_R hR hf2) (law_s e hf2)
theorem bkL3_a : zBk mLaw_law 313 [(1, 1, 1, 0, 0), (1, 0, 1, 0, 0), (1, 3, 0, 0, 0), (0, 0, 0, 0, 1), (4, 0, 0, 0, 0), (7, 0, 0, 0, 0)] = some 319 := by decide +kernel
theorem bkL3_b : zBk mLaw_law 322 [(1, 2, 1, 0, 0), (1, 0, 1, 0, 0), (1, 3, 0, 0, 0), (0, 0, 0, 0, 1), (4, 0, 0, 0, 0), (7, 0, 0, 0, 0)] = some 328 := by decide +kernel
theorem bkL3_c : zBk mLaw_law 331 [] = some 331 := by decide +kernel
theorem bdL3_a : decode mLaw_law.2.2.1 319 = .ok (.invokevirtual 27, 3) := by decide +kernel
theorem bdL3_b : decode mLaw_law.2.2.1 328 = .ok (.invokevirtual 30, 3) := by decide +kernel
theorem bdL3_c : decode mLaw_law.2.2.1 331 = .ok (.if_icmp .eq 1196, 3) := by decide +kernel
set_option maxHeartbeats 2000000 in
theorem law_type {sg : zSig} {i : Int32} {Q : Option Value → zHp → Prop} (h : R2 sg sg) (hi : ∀ j, 0 ≤ j → j ≤ 8 → 0 ≤ i + j ∧ i + j < sg 100001 (-1)) (kk : ∀ sg', R2 sg' sg' → (∀ j, sg' 100001 j = sg 100001 j) → zG mLaw_law 411 Q 1527 [(0, .ref 100001), (1, .ref 0), (2, .ref 393), (3, .int i)] [] (zN sg')) : zG mLaw_law 411 Q 313 [(0, .ref 100001), (1, .ref 0), (2, .ref 393), (3, .int i)] [] (zN sg) := by
  refine zG_run bkL3_a (lv' := [(0, .ref 100001), (1, .ref 0), (2, .ref 393), (3, .int i)]) (st' := [.int (sg 100001 (i + 1)), .ref 0]) (h' := zN sg) (Ps := [zInL (zN sg) 100001 (i + 1)]) rfl (zA (lin (hi 1 (by decide) (by decide))) trivial) ?_
  refine zG_callv (a := 0) (c := 9) (As := [.int (sg 100001 (i + 1))]) (rest := []) (N2 := 411) bdL3_a okSR_type lk13_27 (And.intro (by decide) (by decide)) (by decide) rfl rfl rfl (Nat.le_of_ble_eq_true rfl) (Nat.le_of_ble_eq_true rfl) (Nat.le_refl 411) (Nat.le_refl 411) zob_0 (cSR_type h.1.1.1 h.1.2.1.1.1 h.1.2.1.1.2 h.1.2.1.2.1.1 h.1.2.1.2.1.2 h.2.1.1.1 h.2.1.1.2) ?_
  intro rr h' hP _
  obtain ⟨v, s1, rfl, rfl, hf, hK⟩ := K_type h rr h' hP
  have e : ∀ j, s1 100001 j = sg 100001 j := fun j => hf 100001 j (by decide)
  have hT : R2 sg (zup s1 393 0 0) := law_T h hf
  have hb := SR_b hT.1.1
  obtain ⟨u6, u11⟩ := law_u hT
  refine zG_run bkL3_b (lv' := [(0, .ref 100001), (1, .ref 0), (2, .ref 393), (3, .int i)]) (st' := [.int (s1 100001 (i + 1)), .ref 393, .int v]) (h' := zN s1) (Ps := [zInL (zN s1) 100001 (i + 1)]) rfl (zA (lin (law_e e (hi 1 (by decide) (by decide)))) trivial) ?_
  simp only [e]
  refine zG_callv (a := 393) (c := 10) (As := [.int (sg 100001 (i + 1))]) (rest := [.int v]) (N2 := 411) bdL3_b okMo_type lk13_30 (And.intro (by decide) (by decide)) (by decide) rfl rfl rfl (Nat.le_of_ble_eq_true rfl) (Nat.le_of_ble_eq_true rfl) (Nat.le_refl 411) (Nat.le_refl 411) zob_393 (tMo_type (bMo_type hb.1.1 hb.1.2 hb.2.1.1 hb.2.1.2 hb.2.2.1 hb.2.2.2 u6.1 u6.2 u11.1 u11.2)) ?_
  intro rr2 h2 hP2 _
  obtain ⟨t2, rfl, rfl, hR, hf2⟩ := hK _ rr2 h2 hT hP2
  refine zb_iceq (tgt := 1527) bkL3_c bdL3_c (by decide) (lv' := [(0, .ref 100001), (1, .ref 0), (2, .ref 393), (3, .int i)]) (st' := []) (h' := zN t2) (x := v) (y := v) (Ps := []) rfl trivial (fun _ => ?_) (fun q => absurd rfl q)
  exact kk t2 (law_R hR hf2) (law_s e hf2)
theorem bkL4_a : zBk mLaw_law 336 [(1, 1, 1, 0, 0), (1, 0, 1, 0, 0), (1, 3, 0, 0, 0), (0, 0, 0, 0, 1), (4, 0, 0, 0, 0), (7, 0, 0, 0, 0), (1, 0, 1, 0, 0), (1, 3, 0, 0, 0), (0, 0, 0, 0, 2), (4, 0, 0, 0, 0), (7, 0, 0, 0, 0)] = some 347 := by decide +kernel
theorem bkL4_b : zBk mLaw_law 350 [(1, 2, 1, 0, 0), (1, 0, 1, 0, 0), (1, 3, 0, 0, 0), (0, 0, 0, 0, 1), (4, 0, 0, 0, 0), (7, 0, 0, 0, 0), (1, 0, 1, 0, 0), (1, 3, 0, 0, 0), (0, 0, 0, 0, 2), (4, 0, 0, 0, 0), (7, 0, 0, 0, 0)] = some 361 := by decide +kernel
theorem bkL4_c : zBk mLaw_law 364 [] = some 364 := by decide +kernel
theorem bdL4_a : decode mLaw_law.2.2.1 347 = .ok (.invokevirtual 31, 3) := by decide +kernel
theorem bdL4_b : decode mLaw_law.2.2.1 361 = .ok (.invokevirtual 35, 3) := by decide +kernel
theorem bdL4_c : decode mLaw_law.2.2.1 364 = .ok (.if_icmp .eq 1163, 3) := by decide +kernel
set_option maxHeartbeats 2000000 in
theorem law_cut {sg : zSig} {i : Int32} {Q : Option Value → zHp → Prop} (h : R2 sg sg) (hi : ∀ j, 0 ≤ j → j ≤ 8 → 0 ≤ i + j ∧ i + j < sg 100001 (-1)) (kk : ∀ sg', R2 sg' sg' → (∀ j, sg' 100001 j = sg 100001 j) → zG mLaw_law 411 Q 1527 [(0, .ref 100001), (1, .ref 0), (2, .ref 393), (3, .int i)] [] (zN sg')) : zG mLaw_law 411 Q 336 [(0, .ref 100001), (1, .ref 0), (2, .ref 393), (3, .int i)] [] (zN sg) := by
  refine zG_run bkL4_a (lv' := [(0, .ref 100001), (1, .ref 0), (2, .ref 393), (3, .int i)]) (st' := [.int (sg 100001 (i + 2)), .int (sg 100001 (i + 1)), .ref 0]) (h' := zN sg) (Ps := [zInL (zN sg) 100001 (i + 1), zInL (zN sg) 100001 (i + 2)]) rfl (zA (lin (hi 1 (by decide) (by decide))) (zA (lin (hi 2 (by decide) (by decide))) trivial)) ?_
  refine zG_callv (a := 0) (c := 9) (As := [.int (sg 100001 (i + 1)), .int (sg 100001 (i + 2))]) (rest := []) (N2 := 411) bdL4_a okSR_cut lk13_31 (And.intro (by decide) (by decide)) (by decide) rfl rfl rfl (Nat.le_of_ble_eq_true rfl) (Nat.le_of_ble_eq_true rfl) (Nat.le_refl 411) (Nat.le_refl 411) zob_0 (cSR_cut h.1.1.1 h.1.2.1.1.1 h.1.2.1.1.2 h.1.2.1.2.1.1 h.1.2.1.2.1.2) ?_
  intro rr h' hP _
  obtain ⟨v, s1, rfl, rfl, hf, hK⟩ := K_cut h rr h' hP
  have e : ∀ j, s1 100001 j = sg 100001 j := fun j => hf 100001 j (by decide)
  have hT : R2 sg (zup s1 393 0 0) := law_T h hf
  have hb := SR_b hT.1.1
  obtain ⟨u6, u11⟩ := law_u hT
  refine zG_run bkL4_b (lv' := [(0, .ref 100001), (1, .ref 0), (2, .ref 393), (3, .int i)]) (st' := [.int (s1 100001 (i + 2)), .int (s1 100001 (i + 1)), .ref 393, .int v]) (h' := zN s1) (Ps := [zInL (zN s1) 100001 (i + 1), zInL (zN s1) 100001 (i + 2)]) rfl (zA (lin (law_e e (hi 1 (by decide) (by decide)))) (zA (lin (law_e e (hi 2 (by decide) (by decide)))) trivial)) ?_
  simp only [e]
  refine zG_callv (a := 393) (c := 10) (As := [.int (sg 100001 (i + 1)), .int (sg 100001 (i + 2))]) (rest := [.int v]) (N2 := 411) bdL4_b okMo_cut lk13_35 (And.intro (by decide) (by decide)) (by decide) rfl rfl rfl (Nat.le_of_ble_eq_true rfl) (Nat.le_of_ble_eq_true rfl) (Nat.le_refl 411) (Nat.le_refl 411) zob_393 (tMo_cut (bMo_cut hb.1.1 hb.1.2 hb.2.1.1 hb.2.1.2 hb.2.2.1 hb.2.2.2 u6.1 u6.2)) ?_
  intro rr2 h2 hP2 _
  obtain ⟨t2, rfl, rfl, hR, hf2⟩ := hK _ rr2 h2 hT hP2
  refine zb_iceq (tgt := 1527) bkL4_c bdL4_c (by decide) (lv' := [(0, .ref 100001), (1, .ref 0), (2, .ref 393), (3, .int i)]) (st' := []) (h' := zN t2) (x := v) (y := v) (Ps := []) rfl trivial (fun _ => ?_) (fun q => absurd rfl q)
  exact kk t2 (law_R hR hf2) (law_s e hf2)
theorem bkL5_a : zBk mLaw_law 369 [(1, 1, 1, 0, 0), (1, 0, 1, 0, 0), (1, 3, 0, 0, 0), (0, 0, 0, 0, 1), (4, 0, 0, 0, 0), (7, 0, 0, 0, 0), (1, 0, 1, 0, 0), (1, 3, 0, 0, 0), (0, 0, 0, 0, 2), (4, 0, 0, 0, 0), (7, 0, 0, 0, 0)] = some 380 := by decide +kernel
theorem bkL5_b : zBk mLaw_law 383 [(1, 2, 1, 0, 0), (1, 0, 1, 0, 0), (1, 3, 0, 0, 0), (0, 0, 0, 0, 1), (4, 0, 0, 0, 0), (7, 0, 0, 0, 0), (1, 0, 1, 0, 0), (1, 3, 0, 0, 0), (0, 0, 0, 0, 2), (4, 0, 0, 0, 0), (7, 0, 0, 0, 0)] = some 394 := by decide +kernel
theorem bkL5_c : zBk mLaw_law 397 [] = some 397 := by decide +kernel
theorem bdL5_a : decode mLaw_law.2.2.1 380 = .ok (.invokevirtual 36, 3) := by decide +kernel
theorem bdL5_b : decode mLaw_law.2.2.1 394 = .ok (.invokevirtual 39, 3) := by decide +kernel
theorem bdL5_c : decode mLaw_law.2.2.1 397 = .ok (.if_icmp .eq 1130, 3) := by decide +kernel
set_option maxHeartbeats 2000000 in
theorem law_swap {sg : zSig} {i : Int32} {Q : Option Value → zHp → Prop} (h : R2 sg sg) (hi : ∀ j, 0 ≤ j → j ≤ 8 → 0 ≤ i + j ∧ i + j < sg 100001 (-1)) (kk : ∀ sg', R2 sg' sg' → (∀ j, sg' 100001 j = sg 100001 j) → zG mLaw_law 411 Q 1527 [(0, .ref 100001), (1, .ref 0), (2, .ref 393), (3, .int i)] [] (zN sg')) : zG mLaw_law 411 Q 369 [(0, .ref 100001), (1, .ref 0), (2, .ref 393), (3, .int i)] [] (zN sg) := by
  refine zG_run bkL5_a (lv' := [(0, .ref 100001), (1, .ref 0), (2, .ref 393), (3, .int i)]) (st' := [.int (sg 100001 (i + 2)), .int (sg 100001 (i + 1)), .ref 0]) (h' := zN sg) (Ps := [zInL (zN sg) 100001 (i + 1), zInL (zN sg) 100001 (i + 2)]) rfl (zA (lin (hi 1 (by decide) (by decide))) (zA (lin (hi 2 (by decide) (by decide))) trivial)) ?_
  refine zG_callv (a := 0) (c := 9) (As := [.int (sg 100001 (i + 1)), .int (sg 100001 (i + 2))]) (rest := []) (N2 := 411) bdL5_a okSR_swap lk13_36 (And.intro (by decide) (by decide)) (by decide) rfl rfl rfl (Nat.le_of_ble_eq_true rfl) (Nat.le_of_ble_eq_true rfl) (Nat.le_refl 411) (Nat.le_refl 411) zob_0 (cSR_swap h.1.1.1 h.1.2.1.1.1 h.1.2.1.1.2 h.1.2.1.2.1.1 h.1.2.1.2.1.2 h.2.1.1.1 h.2.1.1.2) ?_
  intro rr h' hP _
  obtain ⟨v, s1, rfl, rfl, hf, hK⟩ := K_swap h rr h' hP
  have e : ∀ j, s1 100001 j = sg 100001 j := fun j => hf 100001 j (by decide)
  have hT : R2 sg (zup s1 393 0 0) := law_T h hf
  have hb := SR_b hT.1.1
  obtain ⟨u6, u11⟩ := law_u hT
  refine zG_run bkL5_b (lv' := [(0, .ref 100001), (1, .ref 0), (2, .ref 393), (3, .int i)]) (st' := [.int (s1 100001 (i + 2)), .int (s1 100001 (i + 1)), .ref 393, .int v]) (h' := zN s1) (Ps := [zInL (zN s1) 100001 (i + 1), zInL (zN s1) 100001 (i + 2)]) rfl (zA (lin (law_e e (hi 1 (by decide) (by decide)))) (zA (lin (law_e e (hi 2 (by decide) (by decide)))) trivial)) ?_
  simp only [e]
  refine zG_callv (a := 393) (c := 10) (As := [.int (sg 100001 (i + 1)), .int (sg 100001 (i + 2))]) (rest := [.int v]) (N2 := 411) bdL5_b okMo_swap lk13_39 (And.intro (by decide) (by decide)) (by decide) rfl rfl rfl (Nat.le_of_ble_eq_true rfl) (Nat.le_of_ble_eq_true rfl) (Nat.le_refl 411) (Nat.le_refl 411) zob_393 (tMo_swap (bMo_swap hb.1.1 hb.1.2 hb.2.1.1 hb.2.1.2 hb.2.2.1 hb.2.2.2 u6.1 u6.2 u11.1 u11.2)) ?_
  intro rr2 h2 hP2 _
  obtain ⟨t2, rfl, rfl, hR, hf2⟩ := hK _ rr2 h2 hT hP2
  refine zb_iceq (tgt := 1527) bkL5_c bdL5_c (by decide) (lv' := [(0, .ref 100001), (1, .ref 0), (2, .ref 393), (3, .int i)]) (st' := []) (h' := zN t2) (x := v) (y := v) (Ps := []) rfl trivial (fun _ => ?_) (fun q => absurd rfl q)
  exact kk t2 (law_R hR hf2) (law_s e hf2)
theorem bkL6_a : zBk mLaw_law 402 [(1, 1, 1, 0, 0), (1, 0, 1, 0, 0), (1, 3, 0, 0, 0), (0, 0, 0, 0, 1), (4, 0, 0, 0, 0), (7, 0, 0, 0, 0), (1, 0, 1, 0, 0), (1, 3, 0, 0, 0), (0, 0, 0, 0, 2), (4, 0, 0, 0, 0), (7, 0, 0, 0, 0), (1, 0, 1, 0, 0), (1, 3, 0, 0, 0), (0, 0, 0, 0, 3), (4, 0, 0, 0, 0), (7, 0, 0, 0, 0)] = some 418 := by decide +kernel
theorem bkL6_b : zBk mLaw_law 421 [(1, 2, 1, 0, 0), (1, 0, 1, 0, 0), (1, 3, 0, 0, 0), (0, 0, 0, 0, 1), (4, 0, 0, 0, 0), (7, 0, 0, 0, 0), (1, 0, 1, 0, 0), (1, 3, 0, 0, 0), (0, 0, 0, 0, 2), (4, 0, 0, 0, 0), (7, 0, 0, 0, 0), (1, 0, 1, 0, 0), (1, 3, 0, 0, 0), (0, 0, 0, 0, 3), (4, 0, 0, 0, 0), (7, 0, 0, 0, 0)] = some 437 := by decide +kernel
theorem bkL6_c : zBk mLaw_law 440 [] = some 440 := by decide +kernel
theorem bdL6_a : decode mLaw_law.2.2.1 418 = .ok (.invokevirtual 40, 3) := by decide +kernel
theorem bdL6_b : decode mLaw_law.2.2.1 437 = .ok (.invokevirtual 44, 3) := by decide +kernel
theorem bdL6_c : decode mLaw_law.2.2.1 440 = .ok (.if_icmp .eq 1087, 3) := by decide +kernel
set_option maxHeartbeats 2000000 in
theorem law_move {sg : zSig} {i : Int32} {Q : Option Value → zHp → Prop} (h : R2 sg sg) (hi : ∀ j, 0 ≤ j → j ≤ 8 → 0 ≤ i + j ∧ i + j < sg 100001 (-1)) (kk : ∀ sg', R2 sg' sg' → (∀ j, sg' 100001 j = sg 100001 j) → zG mLaw_law 411 Q 1527 [(0, .ref 100001), (1, .ref 0), (2, .ref 393), (3, .int i)] [] (zN sg')) : zG mLaw_law 411 Q 402 [(0, .ref 100001), (1, .ref 0), (2, .ref 393), (3, .int i)] [] (zN sg) := by
  refine zG_run bkL6_a (lv' := [(0, .ref 100001), (1, .ref 0), (2, .ref 393), (3, .int i)]) (st' := [.int (sg 100001 (i + 3)), .int (sg 100001 (i + 2)), .int (sg 100001 (i + 1)), .ref 0]) (h' := zN sg) (Ps := [zInL (zN sg) 100001 (i + 1), zInL (zN sg) 100001 (i + 2), zInL (zN sg) 100001 (i + 3)]) rfl (zA (lin (hi 1 (by decide) (by decide))) (zA (lin (hi 2 (by decide) (by decide))) (zA (lin (hi 3 (by decide) (by decide))) trivial))) ?_
  refine zG_callv (a := 0) (c := 9) (As := [.int (sg 100001 (i + 1)), .int (sg 100001 (i + 2)), .int (sg 100001 (i + 3))]) (rest := []) (N2 := 411) bdL6_a okSR_move lk13_40 (And.intro (by decide) (by decide)) (by decide) rfl rfl rfl (Nat.le_of_ble_eq_true rfl) (Nat.le_of_ble_eq_true rfl) (Nat.le_refl 411) (Nat.le_refl 411) zob_0 (cSR_move h.1.1.1 h.1.2.1.1.1 h.1.2.1.1.2 h.1.2.1.2.1.1 h.1.2.1.2.1.2) ?_
  intro rr h' hP _
  obtain ⟨v, s1, rfl, rfl, hf, hK⟩ := K_move h rr h' hP
  have e : ∀ j, s1 100001 j = sg 100001 j := fun j => hf 100001 j (by decide)
  have hT : R2 sg (zup s1 393 0 0) := law_T h hf
  have hb := SR_b hT.1.1
  obtain ⟨u6, u11⟩ := law_u hT
  refine zG_run bkL6_b (lv' := [(0, .ref 100001), (1, .ref 0), (2, .ref 393), (3, .int i)]) (st' := [.int (s1 100001 (i + 3)), .int (s1 100001 (i + 2)), .int (s1 100001 (i + 1)), .ref 393, .int v]) (h' := zN s1) (Ps := [zInL (zN s1) 100001 (i + 1), zInL (zN s1) 100001 (i + 2), zInL (zN s1) 100001 (i + 3)]) rfl (zA (lin (law_e e (hi 1 (by decide) (by decide)))) (zA (lin (law_e e (hi 2 (by decide) (by decide)))) (zA (lin (law_e e (hi 3 (by decide) (by decide)))) trivial))) ?_
  simp only [e]
  refine zG_callv (a := 393) (c := 10) (As := [.int (sg 100001 (i + 1)), .int (sg 100001 (i + 2)), .int (sg 100001 (i + 3))]) (rest := [.int v]) (N2 := 411) bdL6_b okMo_move lk13_44 (And.intro (by decide) (by decide)) (by decide) rfl rfl rfl (Nat.le_of_ble_eq_true rfl) (Nat.le_of_ble_eq_true rfl) (Nat.le_refl 411) (Nat.le_refl 411) zob_393 (tMo_move (bMo_move hb.1.1 hb.1.2 hb.2.1.1 hb.2.1.2 hb.2.2.1 hb.2.2.2 u6.1 u6.2)) ?_
  intro rr2 h2 hP2 _
  obtain ⟨t2, rfl, rfl, hR, hf2⟩ := hK _ rr2 h2 hT hP2
  refine zb_iceq (tgt := 1527) bkL6_c bdL6_c (by decide) (lv' := [(0, .ref 100001), (1, .ref 0), (2, .ref 393), (3, .int i)]) (st' := []) (h' := zN t2) (x := v) (y := v) (Ps := []) rfl trivial (fun _ => ?_) (fun q => absurd rfl q)
  exact kk t2 (law_R hR hf2) (law_s e hf2)
theorem bkL7_a : zBk mLaw_law 445 [(1, 1, 1, 0, 0), (1, 0, 1, 0, 0), (1, 3, 0, 0, 0), (0, 0, 0, 0, 1), (4, 0, 0, 0, 0), (7, 0, 0, 0, 0), (1, 0, 1, 0, 0), (1, 3, 0, 0, 0), (0, 0, 0, 0, 2), (4, 0, 0, 0, 0), (7, 0, 0, 0, 0), (1, 0, 1, 0, 0), (1, 3, 0, 0, 0), (0, 0, 0, 0, 3), (4, 0, 0, 0, 0), (7, 0, 0, 0, 0), (1, 0, 1, 0, 0), (1, 3, 0, 0, 0), (0, 0, 0, 0, 4), (4, 0, 0, 0, 0), (7, 0, 0, 0, 0), (1, 0, 1, 0, 0), (1, 3, 0, 0, 0), (0, 0, 0, 0, 5), (4, 0, 0, 0, 0), (7, 0, 0, 0, 0), (1, 0, 1, 0, 0), (1, 3, 0, 0, 0), (0, 0, 0, 0, 6), (4, 0, 0, 0, 0), (7, 0, 0, 0, 0), (1, 0, 1, 0, 0), (1, 3, 0, 0, 0), (0, 0, 0, 0, 7), (4, 0, 0, 0, 0), (7, 0, 0, 0, 0), (1, 0, 1, 0, 0), (1, 3, 0, 0, 0), (0, 0, 0, 0, 8), (4, 0, 0, 0, 0), (7, 0, 0, 0, 0)] = some 489 := by decide +kernel
theorem bkL7_b : zBk mLaw_law 492 [(1, 2, 1, 0, 0), (1, 0, 1, 0, 0), (1, 3, 0, 0, 0), (0, 0, 0, 0, 1), (4, 0, 0, 0, 0), (7, 0, 0, 0, 0), (1, 0, 1, 0, 0), (1, 3, 0, 0, 0), (0, 0, 0, 0, 2), (4, 0, 0, 0, 0), (7, 0, 0, 0, 0), (1, 0, 1, 0, 0), (1, 3, 0, 0, 0), (0, 0, 0, 0, 3), (4, 0, 0, 0, 0), (7, 0, 0, 0, 0), (1, 0, 1, 0, 0), (1, 3, 0, 0, 0), (0, 0, 0, 0, 4), (4, 0, 0, 0, 0), (7, 0, 0, 0, 0), (1, 0, 1, 0, 0), (1, 3, 0, 0, 0), (0, 0, 0, 0, 5), (4, 0, 0, 0, 0), (7, 0, 0, 0, 0), (1, 0, 1, 0, 0), (1, 3, 0, 0, 0), (0, 0, 0, 0, 6), (4, 0, 0, 0, 0), (7, 0, 0, 0, 0), (1, 0, 1, 0, 0), (1, 3, 0, 0, 0), (0, 0, 0, 0, 7), (4, 0, 0, 0, 0), (7, 0, 0, 0, 0), (1, 0, 1, 0, 0), (1, 3, 0, 0, 0), (0, 0, 0, 0, 8), (4, 0, 0, 0, 0), (7, 0, 0, 0, 0)] = some 536 := by decide +kernel
theorem bkL7_c : zBk mLaw_law 539 [] = some 539 := by decide +kernel
theorem bdL7_a : decode mLaw_law.2.2.1 489 = .ok (.invokevirtual 45, 3) := by decide +kernel
theorem bdL7_b : decode mLaw_law.2.2.1 536 = .ok (.invokevirtual 49, 3) := by decide +kernel
theorem bdL7_c : decode mLaw_law.2.2.1 539 = .ok (.if_icmp .eq 988, 3) := by decide +kernel
set_option maxHeartbeats 2000000 in
theorem law_lay {sg : zSig} {i : Int32} {Q : Option Value → zHp → Prop} (h : R2 sg sg) (hi : ∀ j, 0 ≤ j → j ≤ 8 → 0 ≤ i + j ∧ i + j < sg 100001 (-1)) (kk : ∀ sg', R2 sg' sg' → (∀ j, sg' 100001 j = sg 100001 j) → zG mLaw_law 411 Q 1527 [(0, .ref 100001), (1, .ref 0), (2, .ref 393), (3, .int i)] [] (zN sg')) : zG mLaw_law 411 Q 445 [(0, .ref 100001), (1, .ref 0), (2, .ref 393), (3, .int i)] [] (zN sg) := by
  refine zG_run bkL7_a (lv' := [(0, .ref 100001), (1, .ref 0), (2, .ref 393), (3, .int i)]) (st' := [.int (sg 100001 (i + 8)), .int (sg 100001 (i + 7)), .int (sg 100001 (i + 6)), .int (sg 100001 (i + 5)), .int (sg 100001 (i + 4)), .int (sg 100001 (i + 3)), .int (sg 100001 (i + 2)), .int (sg 100001 (i + 1)), .ref 0]) (h' := zN sg) (Ps := [zInL (zN sg) 100001 (i + 1), zInL (zN sg) 100001 (i + 2), zInL (zN sg) 100001 (i + 3), zInL (zN sg) 100001 (i + 4), zInL (zN sg) 100001 (i + 5), zInL (zN sg) 100001 (i + 6), zInL (zN sg) 100001 (i + 7), zInL (zN sg) 100001 (i + 8)]) rfl (zA (lin (hi 1 (by decide) (by decide))) (zA (lin (hi 2 (by decide) (by decide))) (zA (lin (hi 3 (by decide) (by decide))) (zA (lin (hi 4 (by decide) (by decide))) (zA (lin (hi 5 (by decide) (by decide))) (zA (lin (hi 6 (by decide) (by decide))) (zA (lin (hi 7 (by decide) (by decide))) (zA (lin (hi 8 (by decide) (by decide))) trivial)))))))) ?_
  refine zG_callv (a := 0) (c := 9) (As := [.int (sg 100001 (i + 1)), .int (sg 100001 (i + 2)), .int (sg 100001 (i + 3)), .int (sg 100001 (i + 4)), .int (sg 100001 (i + 5)), .int (sg 100001 (i + 6)), .int (sg 100001 (i + 7)), .int (sg 100001 (i + 8))]) (rest := []) (N2 := 411) bdL7_a okSR_lay lk13_45 (And.intro (by decide) (by decide)) (by decide) rfl rfl rfl (Nat.le_of_ble_eq_true rfl) (Nat.le_of_ble_eq_true rfl) (Nat.le_refl 411) (Nat.le_refl 411) zob_0 (cSR_lay h.1.1.1 h.1.2.1.1.1 h.1.2.1.1.2 h.1.2.1.2.1.1 h.1.2.1.2.1.2) ?_
  intro rr h' hP _
  obtain ⟨v, s1, rfl, rfl, hf, hK⟩ := K_lay h rr h' hP
  have e : ∀ j, s1 100001 j = sg 100001 j := fun j => hf 100001 j (by decide)
  have hT : R2 sg (zup s1 393 0 0) := law_T h hf
  have hb := SR_b hT.1.1
  obtain ⟨u6, u11⟩ := law_u hT
  refine zG_run bkL7_b (lv' := [(0, .ref 100001), (1, .ref 0), (2, .ref 393), (3, .int i)]) (st' := [.int (s1 100001 (i + 8)), .int (s1 100001 (i + 7)), .int (s1 100001 (i + 6)), .int (s1 100001 (i + 5)), .int (s1 100001 (i + 4)), .int (s1 100001 (i + 3)), .int (s1 100001 (i + 2)), .int (s1 100001 (i + 1)), .ref 393, .int v]) (h' := zN s1) (Ps := [zInL (zN s1) 100001 (i + 1), zInL (zN s1) 100001 (i + 2), zInL (zN s1) 100001 (i + 3), zInL (zN s1) 100001 (i + 4), zInL (zN s1) 100001 (i + 5), zInL (zN s1) 100001 (i + 6), zInL (zN s1) 100001 (i + 7), zInL (zN s1) 100001 (i + 8)]) rfl (zA (lin (law_e e (hi 1 (by decide) (by decide)))) (zA (lin (law_e e (hi 2 (by decide) (by decide)))) (zA (lin (law_e e (hi 3 (by decide) (by decide)))) (zA (lin (law_e e (hi 4 (by decide) (by decide)))) (zA (lin (law_e e (hi 5 (by decide) (by decide)))) (zA (lin (law_e e (hi 6 (by decide) (by decide)))) (zA (lin (law_e e (hi 7 (by decide) (by decide)))) (zA (lin (law_e e (hi 8 (by decide) (by decide)))) trivial)))))))) ?_
  simp only [e]
  refine zG_callv (a := 393) (c := 10) (As := [.int (sg 100001 (i + 1)), .int (sg 100001 (i + 2)), .int (sg 100001 (i + 3)), .int (sg 100001 (i + 4)), .int (sg 100001 (i + 5)), .int (sg 100001 (i + 6)), .int (sg 100001 (i + 7)), .int (sg 100001 (i + 8))]) (rest := [.int v]) (N2 := 411) bdL7_b okMo_lay lk13_49 (And.intro (by decide) (by decide)) (by decide) rfl rfl rfl (Nat.le_of_ble_eq_true rfl) (Nat.le_of_ble_eq_true rfl) (Nat.le_refl 411) (Nat.le_refl 411) zob_393 (tMo_lay (bMo_lay hb.1.1 hb.1.2 hb.2.1.1 hb.2.1.2 hb.2.2.1 hb.2.2.2 u6.1 u6.2)) ?_
  intro rr2 h2 hP2 _
  obtain ⟨t2, rfl, rfl, hR, hf2⟩ := hK _ rr2 h2 hT hP2
  refine zb_iceq (tgt := 1527) bkL7_c bdL7_c (by decide) (lv' := [(0, .ref 100001), (1, .ref 0), (2, .ref 393), (3, .int i)]) (st' := []) (h' := zN t2) (x := v) (y := v) (Ps := []) rfl trivial (fun _ => ?_) (fun q => absurd rfl q)
  exact kk t2 (law_R hR hf2) (law_s e hf2)
theorem bkL8_a : zBk mLaw_law 544 [(1, 1, 1, 0, 0), (1, 0, 1, 0, 0), (1, 3, 0, 0, 0), (0, 0, 0, 0, 1), (4, 0, 0, 0, 0), (7, 0, 0, 0, 0)] = some 550 := by decide +kernel
theorem bkL8_b : zBk mLaw_law 553 [(1, 2, 1, 0, 0), (1, 0, 1, 0, 0), (1, 3, 0, 0, 0), (0, 0, 0, 0, 1), (4, 0, 0, 0, 0), (7, 0, 0, 0, 0)] = some 559 := by decide +kernel
theorem bkL8_c : zBk mLaw_law 562 [] = some 562 := by decide +kernel
theorem bdL8_a : decode mLaw_law.2.2.1 550 = .ok (.invokevirtual 50, 3) := by decide +kernel
theorem bdL8_b : decode mLaw_law.2.2.1 559 = .ok (.invokevirtual 53, 3) := by decide +kernel
theorem bdL8_c : decode mLaw_law.2.2.1 562 = .ok (.if_icmp .eq 965, 3) := by decide +kernel
set_option maxHeartbeats 2000000 in
theorem law_lift {sg : zSig} {i : Int32} {Q : Option Value → zHp → Prop} (h : R2 sg sg) (hi : ∀ j, 0 ≤ j → j ≤ 8 → 0 ≤ i + j ∧ i + j < sg 100001 (-1)) (kk : ∀ sg', R2 sg' sg' → (∀ j, sg' 100001 j = sg 100001 j) → zG mLaw_law 411 Q 1527 [(0, .ref 100001), (1, .ref 0), (2, .ref 393), (3, .int i)] [] (zN sg')) : zG mLaw_law 411 Q 544 [(0, .ref 100001), (1, .ref 0), (2, .ref 393), (3, .int i)] [] (zN sg) := by
  refine zG_run bkL8_a (lv' := [(0, .ref 100001), (1, .ref 0), (2, .ref 393), (3, .int i)]) (st' := [.int (sg 100001 (i + 1)), .ref 0]) (h' := zN sg) (Ps := [zInL (zN sg) 100001 (i + 1)]) rfl (zA (lin (hi 1 (by decide) (by decide))) trivial) ?_
  refine zG_callv (a := 0) (c := 9) (As := [.int (sg 100001 (i + 1))]) (rest := []) (N2 := 411) bdL8_a okSR_lift lk13_50 (And.intro (by decide) (by decide)) (by decide) rfl rfl rfl (Nat.le_of_ble_eq_true rfl) (Nat.le_of_ble_eq_true rfl) (Nat.le_refl 411) (Nat.le_refl 411) zob_0 (cSR_lift h.1.1.1 h.1.2.1.1.1 h.1.2.1.1.2 h.1.2.1.2.1.1 h.1.2.1.2.1.2) ?_
  intro rr h' hP _
  obtain ⟨v, s1, rfl, rfl, hf, hK⟩ := K_lift h rr h' hP
  have e : ∀ j, s1 100001 j = sg 100001 j := fun j => hf 100001 j (by decide)
  have hT : R2 sg (zup s1 393 0 0) := law_T h hf
  have hb := SR_b hT.1.1
  obtain ⟨u6, u11⟩ := law_u hT
  refine zG_run bkL8_b (lv' := [(0, .ref 100001), (1, .ref 0), (2, .ref 393), (3, .int i)]) (st' := [.int (s1 100001 (i + 1)), .ref 393, .int v]) (h' := zN s1) (Ps := [zInL (zN s1) 100001 (i + 1)]) rfl (zA (lin (law_e e (hi 1 (by decide) (by decide)))) trivial) ?_
  simp only [e]
  refine zG_callv (a := 393) (c := 10) (As := [.int (sg 100001 (i + 1))]) (rest := [.int v]) (N2 := 411) bdL8_b okMo_lift lk13_53 (And.intro (by decide) (by decide)) (by decide) rfl rfl rfl (Nat.le_of_ble_eq_true rfl) (Nat.le_of_ble_eq_true rfl) (Nat.le_refl 411) (Nat.le_refl 411) zob_393 (tMo_lift (bMo_lift hb.1.1 hb.1.2 hb.2.1.1 hb.2.1.2 hb.2.2.1 hb.2.2.2 u6.1 u6.2)) ?_
  intro rr2 h2 hP2 _
  obtain ⟨t2, rfl, rfl, hR, hf2⟩ := hK _ rr2 h2 hT hP2
  refine zb_iceq (tgt := 1527) bkL8_c bdL8_c (by decide) (lv' := [(0, .ref 100001), (1, .ref 0), (2, .ref 393), (3, .int i)]) (st' := []) (h' := zN t2) (x := v) (y := v) (Ps := []) rfl trivial (fun _ => ?_) (fun q => absurd rfl q)
  exact kk t2 (law_R hR hf2) (law_s e hf2)
theorem bkL9_a : zBk mLaw_law 567 [(1, 1, 1, 0, 0), (1, 0, 1, 0, 0), (1, 3, 0, 0, 0), (0, 0, 0, 0, 1), (4, 0, 0, 0, 0), (7, 0, 0, 0, 0), (1, 0, 1, 0, 0), (1, 3, 0, 0, 0), (0, 0, 0, 0, 2), (4, 0, 0, 0, 0), (7, 0, 0, 0, 0), (1, 0, 1, 0, 0), (1, 3, 0, 0, 0), (0, 0, 0, 0, 3), (4, 0, 0, 0, 0), (7, 0, 0, 0, 0)] = some 583 := by decide +kernel
theorem bkL9_b : zBk mLaw_law 586 [(1, 2, 1, 0, 0), (1, 0, 1, 0, 0), (1, 3, 0, 0, 0), (0, 0, 0, 0, 1), (4, 0, 0, 0, 0), (7, 0, 0, 0, 0), (1, 0, 1, 0, 0), (1, 3, 0, 0, 0), (0, 0, 0, 0, 2), (4, 0, 0, 0, 0), (7, 0, 0, 0, 0), (1, 0, 1, 0, 0), (1, 3, 0, 0, 0), (0, 0, 0, 0, 3), (4, 0, 0, 0, 0), (7, 0, 0, 0, 0)] = some 602 := by decide +kernel
theorem bkL9_c : zBk mLaw_law 605 [] = some 605 := by decide +kernel
theorem bdL9_a : decode mLaw_law.2.2.1 583 = .ok (.invokevirtual 54, 3) := by decide +kernel
theorem bdL9_b : decode mLaw_law.2.2.1 602 = .ok (.invokevirtual 57, 3) := by decide +kernel
theorem bdL9_c : decode mLaw_law.2.2.1 605 = .ok (.if_icmp .eq 922, 3) := by decide +kernel
set_option maxHeartbeats 2000000 in
theorem law_set {sg : zSig} {i : Int32} {Q : Option Value → zHp → Prop} (h : R2 sg sg) (hi : ∀ j, 0 ≤ j → j ≤ 8 → 0 ≤ i + j ∧ i + j < sg 100001 (-1)) (kk : ∀ sg', R2 sg' sg' → (∀ j, sg' 100001 j = sg 100001 j) → zG mLaw_law 411 Q 1527 [(0, .ref 100001), (1, .ref 0), (2, .ref 393), (3, .int i)] [] (zN sg')) : zG mLaw_law 411 Q 567 [(0, .ref 100001), (1, .ref 0), (2, .ref 393), (3, .int i)] [] (zN sg) := by
  refine zG_run bkL9_a (lv' := [(0, .ref 100001), (1, .ref 0), (2, .ref 393), (3, .int i)]) (st' := [.int (sg 100001 (i + 3)), .int (sg 100001 (i + 2)), .int (sg 100001 (i + 1)), .ref 0]) (h' := zN sg) (Ps := [zInL (zN sg) 100001 (i + 1), zInL (zN sg) 100001 (i + 2), zInL (zN sg) 100001 (i + 3)]) rfl (zA (lin (hi 1 (by decide) (by decide))) (zA (lin (hi 2 (by decide) (by decide))) (zA (lin (hi 3 (by decide) (by decide))) trivial))) ?_
  refine zG_callv (a := 0) (c := 9) (As := [.int (sg 100001 (i + 1)), .int (sg 100001 (i + 2)), .int (sg 100001 (i + 3))]) (rest := []) (N2 := 411) bdL9_a okSR_set lk13_54 (And.intro (by decide) (by decide)) (by decide) rfl rfl rfl (Nat.le_of_ble_eq_true rfl) (Nat.le_of_ble_eq_true rfl) (Nat.le_refl 411) (Nat.le_refl 411) zob_0 (cSR_set h.1.1.1 h.1.2.1.1.1 h.1.2.1.1.2 h.1.2.1.2.1.1 h.1.2.1.2.1.2) ?_
  intro rr h' hP _
  obtain ⟨v, s1, rfl, rfl, hf, hK⟩ := K_set h rr h' hP
  have e : ∀ j, s1 100001 j = sg 100001 j := fun j => hf 100001 j (by decide)
  have hT : R2 sg (zup s1 393 0 0) := law_T h hf
  have hb := SR_b hT.1.1
  obtain ⟨u6, u11⟩ := law_u hT
  refine zG_run bkL9_b (lv' := [(0, .ref 100001), (1, .ref 0), (2, .ref 393), (3, .int i)]) (st' := [.int (s1 100001 (i + 3)), .int (s1 100001 (i + 2)), .int (s1 100001 (i + 1)), .ref 393, .int v]) (h' := zN s1) (Ps := [zInL (zN s1) 100001 (i + 1), zInL (zN s1) 100001 (i + 2), zInL (zN s1) 100001 (i + 3)]) rfl (zA (lin (law_e e (hi 1 (by decide) (by decide)))) (zA (lin (law_e e (hi 2 (by decide) (by decide)))) (zA (lin (law_e e (hi 3 (by decide) (by decide)))) trivial))) ?_
  simp only [e]
  refine zG_callv (a := 393) (c := 10) (As := [.int (sg 100001 (i + 1)), .int (sg 100001 (i + 2)), .int (sg 100001 (i + 3))]) (rest := [.int v]) (N2 := 411) bdL9_b okMo_set lk13_57 (And.intro (by decide) (by decide)) (by decide) rfl rfl rfl (Nat.le_of_ble_eq_true rfl) (Nat.le_of_ble_eq_true rfl) (Nat.le_refl 411) (Nat.le_refl 411) zob_393 (tMo_set (bMo_set hb.1.1 hb.1.2 hb.2.1.1 hb.2.1.2 hb.2.2.1 hb.2.2.2 u6.1 u6.2)) ?_
  intro rr2 h2 hP2 _
  obtain ⟨t2, rfl, rfl, hR, hf2⟩ := hK _ rr2 h2 hT hP2
  refine zb_iceq (tgt := 1527) bkL9_c bdL9_c (by decide) (lv' := [(0, .ref 100001), (1, .ref 0), (2, .ref 393), (3, .int i)]) (st' := []) (h' := zN t2) (x := v) (y := v) (Ps := []) rfl trivial (fun _ => ?_) (fun q => absurd rfl q)
  exact kk t2 (law_R hR hf2) (law_s e hf2)
theorem bkL10_a : zBk mLaw_law 610 [(1, 1, 1, 0, 0), (1, 0, 1, 0, 0), (1, 3, 0, 0, 0), (0, 0, 0, 0, 1), (4, 0, 0, 0, 0), (7, 0, 0, 0, 0), (1, 0, 1, 0, 0), (1, 3, 0, 0, 0), (0, 0, 0, 0, 2), (4, 0, 0, 0, 0), (7, 0, 0, 0, 0), (1, 0, 1, 0, 0), (1, 3, 0, 0, 0), (0, 0, 0, 0, 3), (4, 0, 0, 0, 0), (7, 0, 0, 0, 0)] = some 626 := by decide +kernel
theorem bkL10_b : zBk mLaw_law 629 [(1, 2, 1, 0, 0), (1, 0, 1, 0, 0), (1, 3, 0, 0, 0), (0, 0, 0, 0, 1), (4, 0, 0, 0, 0), (7, 0, 0, 0, 0), (1, 0, 1, 0, 0), (1, 3, 0, 0, 0), (0, 0, 0, 0, 2), (4, 0, 0, 0, 0), (7, 0, 0, 0, 0), (1, 0, 1, 0, 0), (1, 3, 0, 0, 0), (0, 0, 0, 0, 3), (4, 0, 0, 0, 0), (7, 0, 0, 0, 0)] = some 645 := by decide +kernel
theorem bkL10_c : zBk mLaw_law 648 [] = some 648 := by decide +kernel
theorem bdL10_a : decode mLaw_law.2.2.1 626 = .ok (.invokevirtual 58, 3) := by decide +kernel
theorem bdL10_b : decode mLaw_law.2.2.1 645 = .ok (.invokevirtual 61, 3) := by decide +kernel
theorem bdL10_c : decode mLaw_law.2.2.1 648 = .ok (.if_icmp .eq 879, 3) := by decide +kernel
set_option maxHeartbeats 2000000 in
theorem law_stretch {sg : zSig} {i : Int32} {Q : Option Value → zHp → Prop} (h : R2 sg sg) (hi : ∀ j, 0 ≤ j → j ≤ 8 → 0 ≤ i + j ∧ i + j < sg 100001 (-1)) (kk : ∀ sg', R2 sg' sg' → (∀ j, sg' 100001 j = sg 100001 j) → zG mLaw_law 411 Q 1527 [(0, .ref 100001), (1, .ref 0), (2, .ref 393), (3, .int i)] [] (zN sg')) : zG mLaw_law 411 Q 610 [(0, .ref 100001), (1, .ref 0), (2, .ref 393), (3, .int i)] [] (zN sg) := by
  refine zG_run bkL10_a (lv' := [(0, .ref 100001), (1, .ref 0), (2, .ref 393), (3, .int i)]) (st' := [.int (sg 100001 (i + 3)), .int (sg 100001 (i + 2)), .int (sg 100001 (i + 1)), .ref 0]) (h' := zN sg) (Ps := [zInL (zN sg) 100001 (i + 1), zInL (zN sg) 100001 (i + 2), zInL (zN sg) 100001 (i + 3)]) rfl (zA (lin (hi 1 (by decide) (by decide))) (zA (lin (hi 2 (by decide) (by decide))) (zA (lin (hi 3 (by decide) (by decide))) trivial))) ?_
  refine zG_callv (a := 0) (c := 9) (As := [.int (sg 100001 (i + 1)), .int (sg 100001 (i + 2)), .int (sg 100001 (i + 3))]) (rest := []) (N2 := 411) bdL10_a okSR_stretch lk13_58 (And.intro (by decide) (by decide)) (by decide) rfl rfl rfl (Nat.le_of_ble_eq_true rfl) (Nat.le_of_ble_eq_true rfl) (Nat.le_refl 411) (Nat.le_refl 411) zob_0 (cSR_stretch h.1.1.1 h.1.2.1.1.1 h.1.2.1.1.2 h.1.2.1.2.1.1 h.1.2.1.2.1.2) ?_
  intro rr h' hP _
  obtain ⟨v, s1, rfl, rfl, hf, hK⟩ := K_stretch h rr h' hP
  have e : ∀ j, s1 100001 j = sg 100001 j := fun j => hf 100001 j (by decide)
  have hT : R2 sg (zup s1 393 0 0) := law_T h hf
  have hb := SR_b hT.1.1
  obtain ⟨u6, u11⟩ := law_u hT
  refine zG_run bkL10_b (lv' := [(0, .ref 100001), (1, .ref 0), (2, .ref 393), (3, .int i)]) (st' := [.int (s1 100001 (i + 3)), .int (s1 100001 (i + 2)), .int (s1 100001 (i + 1)), .ref 393, .int v]) (h' := zN s1) (Ps := [zInL (zN s1) 100001 (i + 1), zInL (zN s1) 100001 (i + 2), zInL (zN s1) 100001 (i + 3)]) rfl (zA (lin (law_e e (hi 1 (by decide) (by decide)))) (zA (lin (law_e e (hi 2 (by decide) (by decide)))) (zA (lin (law_e e (hi 3 (by decide) (by decide)))) trivial))) ?_
  simp only [e]
  refine zG_callv (a := 393) (c := 10) (As := [.int (sg 100001 (i + 1)), .int (sg 100001 (i + 2)), .int (sg 100001 (i + 3))]) (rest := [.int v]) (N2 := 411) bdL10_b okMo_stretch lk13_61 (And.intro (by decide) (by decide)) (by decide) rfl rfl rfl (Nat.le_of_ble_eq_true rfl) (Nat.le_of_ble_eq_true rfl) (Nat.le_refl 411) (Nat.le_refl 411) zob_393 (tMo_stretch (bMo_stretch hb.1.1 hb.1.2 hb.2.1.1 hb.2.1.2 hb.2.2.1 hb.2.2.2 u6.1 u6.2)) ?_
  intro rr2 h2 hP2 _
  obtain ⟨t2, rfl, rfl, hR, hf2⟩ := hK _ rr2 h2 hT hP2
  refine zb_iceq (tgt := 1527) bkL10_c bdL10_c (by decide) (lv' := [(0, .ref 100001), (1, .ref 0), (2, .ref 393), (3, .int i)]) (st' := []) (h' := zN t2) (x := v) (y := v) (Ps := []) rfl trivial (fun _ => ?_) (fun q => absurd rfl q)
  exact kk t2 (law_R hR hf2) (law_s e hf2)
theorem bkL11_a : zBk mLaw_law 653 [(1, 1, 1, 0, 0), (1, 0, 1, 0, 0), (1, 3, 0, 0, 0), (0, 0, 0, 0, 1), (4, 0, 0, 0, 0), (7, 0, 0, 0, 0), (1, 0, 1, 0, 0), (1, 3, 0, 0, 0), (0, 0, 0, 0, 2), (4, 0, 0, 0, 0), (7, 0, 0, 0, 0), (1, 0, 1, 0, 0), (1, 3, 0, 0, 0), (0, 0, 0, 0, 3), (4, 0, 0, 0, 0), (7, 0, 0, 0, 0), (1, 0, 1, 0, 0), (1, 3, 0, 0, 0), (0, 0, 0, 0, 4), (4, 0, 0, 0, 0), (7, 0, 0, 0, 0), (1, 0, 1, 0, 0), (1, 3, 0, 0, 0), (0, 0, 0, 0, 5), (4, 0, 0, 0, 0), (7, 0, 0, 0, 0), (1, 0, 1, 0, 0), (1, 3, 0, 0, 0), (0, 0, 0, 0, 6), (4, 0, 0, 0, 0), (7, 0, 0, 0, 0)] = some 685 := by decide +kernel
theorem bkL11_b : zBk mLaw_law 688 [(1, 2, 1, 0, 0), (1, 0, 1, 0, 0), (1, 3, 0, 0, 0), (0, 0, 0, 0, 1), (4, 0, 0, 0, 0), (7, 0, 0, 0, 0), (1, 0, 1, 0, 0), (1, 3, 0, 0, 0), (0, 0, 0, 0, 2), (4, 0, 0, 0, 0), (7, 0, 0, 0, 0), (1, 0, 1, 0, 0), (1, 3, 0, 0, 0), (0, 0, 0, 0, 3), (4, 0, 0, 0, 0), (7, 0, 0, 0, 0), (1, 0, 1, 0, 0), (1, 3, 0, 0, 0), (0, 0, 0, 0, 4), (4, 0, 0, 0, 0), (7, 0, 0, 0, 0), (1, 0, 1, 0, 0), (1, 3, 0, 0, 0), (0, 0, 0, 0, 5), (4, 0, 0, 0, 0), (7, 0, 0, 0, 0), (1, 0, 1, 0, 0), (1, 3, 0, 0, 0), (0, 0, 0, 0, 6), (4, 0, 0, 0, 0), (7, 0, 0, 0, 0)] = some 720 := by decide +kernel
theorem bkL11_c : zBk mLaw_law 723 [] = some 723 := by decide +kernel
theorem bdL11_a : decode mLaw_law.2.2.1 685 = .ok (.invokevirtual 62, 3) := by decide +kernel
theorem bdL11_b : decode mLaw_law.2.2.1 720 = .ok (.invokevirtual 66, 3) := by decide +kernel
theorem bdL11_c : decode mLaw_law.2.2.1 723 = .ok (.if_icmp .eq 804, 3) := by decide +kernel
set_option maxHeartbeats 2000000 in
theorem law_paint {sg : zSig} {i : Int32} {Q : Option Value → zHp → Prop} (h : R2 sg sg) (hi : ∀ j, 0 ≤ j → j ≤ 8 → 0 ≤ i + j ∧ i + j < sg 100001 (-1)) (kk : ∀ sg', R2 sg' sg' → (∀ j, sg' 100001 j = sg 100001 j) → zG mLaw_law 411 Q 1527 [(0, .ref 100001), (1, .ref 0), (2, .ref 393), (3, .int i)] [] (zN sg')) : zG mLaw_law 411 Q 653 [(0, .ref 100001), (1, .ref 0), (2, .ref 393), (3, .int i)] [] (zN sg) := by
  refine zG_run bkL11_a (lv' := [(0, .ref 100001), (1, .ref 0), (2, .ref 393), (3, .int i)]) (st' := [.int (sg 100001 (i + 6)), .int (sg 100001 (i + 5)), .int (sg 100001 (i + 4)), .int (sg 100001 (i + 3)), .int (sg 100001 (i + 2)), .int (sg 100001 (i + 1)), .ref 0]) (h' := zN sg) (Ps := [zInL (zN sg) 100001 (i + 1), zInL (zN sg) 100001 (i + 2), zInL (zN sg) 100001 (i + 3), zInL (zN sg) 100001 (i + 4), zInL (zN sg) 100001 (i + 5), zInL (zN sg) 100001 (i + 6)]) rfl (zA (lin (hi 1 (by decide) (by decide))) (zA (lin (hi 2 (by decide) (by decide))) (zA (lin (hi 3 (by decide) (by decide))) (zA (lin (hi 4 (by decide) (by decide))) (zA (lin (hi 5 (by decide) (by decide))) (zA (lin (hi 6 (by decide) (by decide))) trivial)))))) ?_
  refine zG_callv (a := 0) (c := 9) (As := [.int (sg 100001 (i + 1)), .int (sg 100001 (i + 2)), .int (sg 100001 (i + 3)), .int (sg 100001 (i + 4)), .int (sg 100001 (i + 5)), .int (sg 100001 (i + 6))]) (rest := []) (N2 := 411) bdL11_a okSR_paint lk13_62 (And.intro (by decide) (by decide)) (by decide) rfl rfl rfl (Nat.le_of_ble_eq_true rfl) (Nat.le_of_ble_eq_true rfl) (Nat.le_refl 411) (Nat.le_refl 411) zob_0 (cSR_paint h.1.1.1 h.1.2.1.1.1 h.1.2.1.1.2 h.1.2.1.2.1.1 h.1.2.1.2.1.2) ?_
  intro rr h' hP _
  obtain ⟨v, s1, rfl, rfl, hf, hK⟩ := K_paint h rr h' hP
  have e : ∀ j, s1 100001 j = sg 100001 j := fun j => hf 100001 j (by decide)
  have hT : R2 sg (zup s1 393 0 0) := law_T h hf
  have hb := SR_b hT.1.1
  obtain ⟨u6, u11⟩ := law_u hT
  refine zG_run bkL11_b (lv' := [(0, .ref 100001), (1, .ref 0), (2, .ref 393), (3, .int i)]) (st' := [.int (s1 100001 (i + 6)), .int (s1 100001 (i + 5)), .int (s1 100001 (i + 4)), .int (s1 100001 (i + 3)), .int (s1 100001 (i + 2)), .int (s1 100001 (i + 1)), .ref 393, .int v]) (h' := zN s1) (Ps := [zInL (zN s1) 100001 (i + 1), zInL (zN s1) 100001 (i + 2), zInL (zN s1) 100001 (i + 3), zInL (zN s1) 100001 (i + 4), zInL (zN s1) 100001 (i + 5), zInL (zN s1) 100001 (i + 6)]) rfl (zA (lin (law_e e (hi 1 (by decide) (by decide)))) (zA (lin (law_e e (hi 2 (by decide) (by decide)))) (zA (lin (law_e e (hi 3 (by decide) (by decide)))) (zA (lin (law_e e (hi 4 (by decide) (by decide)))) (zA (lin (law_e e (hi 5 (by decide) (by decide)))) (zA (lin (law_e e (hi 6 (by decide) (by decide)))) trivial)))))) ?_
  simp only [e]
  refine zG_callv (a := 393) (c := 10) (As := [.int (sg 100001 (i + 1)), .int (sg 100001 (i + 2)), .int (sg 100001 (i + 3)), .int (sg 100001 (i + 4)), .int (sg 100001 (i + 5)), .int (sg 100001 (i + 6))]) (rest := [.int v]) (N2 := 411) bdL11_b okMo_paint lk13_66 (And.intro (by decide) (by decide)) (by decide) rfl rfl rfl (Nat.le_of_ble_eq_true rfl) (Nat.le_of_ble_eq_true rfl) (Nat.le_refl 411) (Nat.le_refl 411) zob_393 (tMo_paint (bMo_paint hb.1.1 hb.1.2 hb.2.1.1 hb.2.1.2 hb.2.2.1 hb.2.2.2 u6.1 u6.2)) ?_
  intro rr2 h2 hP2 _
  obtain ⟨t2, rfl, rfl, hR, hf2⟩ := hK _ rr2 h2 hT hP2
  refine zb_iceq (tgt := 1527) bkL11_c bdL11_c (by decide) (lv' := [(0, .ref 100001), (1, .ref 0), (2, .ref 393), (3, .int i)]) (st' := []) (h' := zN t2) (x := v) (y := v) (Ps := []) rfl trivial (fun _ => ?_) (fun q => absurd rfl q)
  exact kk t2 (law_R hR hf2) (law_s e hf2)
theorem bkL12_a : zBk mLaw_law 728 [(1, 1, 1, 0, 0)] = some 729 := by decide +kernel
theorem bkL12_b : zBk mLaw_law 732 [(1, 2, 1, 0, 0)] = some 733 := by decide +kernel
theorem bkL12_c : zBk mLaw_law 736 [] = some 736 := by decide +kernel
theorem bdL12_a : decode mLaw_law.2.2.1 729 = .ok (.invokevirtual 67, 3) := by decide +kernel
theorem bdL12_b : decode mLaw_law.2.2.1 733 = .ok (.invokevirtual 71, 3) := by decide +kernel
theorem bdL12_c : decode mLaw_law.2.2.1 736 = .ok (.if_icmp .eq 791, 3) := by decide +kernel
set_option maxHeartbeats 2000000 in
theorem law_fast {sg : zSig} {i : Int32} {Q : Option Value → zHp → Prop} (h : R2 sg sg) (hi : ∀ j, 0 ≤ j → j ≤ 8 → 0 ≤ i + j ∧ i + j < sg 100001 (-1)) (kk : ∀ sg', R2 sg' sg' → (∀ j, sg' 100001 j = sg 100001 j) → zG mLaw_law 411 Q 1527 [(0, .ref 100001), (1, .ref 0), (2, .ref 393), (3, .int i)] [] (zN sg')) : zG mLaw_law 411 Q 728 [(0, .ref 100001), (1, .ref 0), (2, .ref 393), (3, .int i)] [] (zN sg) := by
  refine zG_run bkL12_a (lv' := [(0, .ref 100001), (1, .ref 0), (2, .ref 393), (3, .int i)]) (st' := [.ref 0]) (h' := zN sg) (Ps := []) rfl trivial ?_
  refine zG_callv (a := 0) (c := 9) (As := []) (rest := []) (N2 := 411) bdL12_a okSR_fast lk13_67 (And.intro (by decide) (by decide)) (by decide) rfl rfl rfl (Nat.le_of_ble_eq_true rfl) (Nat.le_of_ble_eq_true rfl) (Nat.le_refl 411) (Nat.le_refl 411) zob_0 (cSR_fast h.1.1.1 h.1.2.1.1.1 h.1.2.1.1.2 h.1.2.1.2.1.1 h.1.2.1.2.1.2 h.2.2.2) ?_
  intro rr h' hP _
  obtain ⟨v, s1, rfl, rfl, hf, hK⟩ := K_fast h rr h' hP
  have e : ∀ j, s1 100001 j = sg 100001 j := fun j => hf 100001 j (by decide)
  have hT : R2 sg (zup s1 393 0 0) := law_T h hf
  have hb := SR_b hT.1.1
  obtain ⟨u6, u11⟩ := law_u hT
  refine zG_run bkL12_b (lv' := [(0, .ref 100001), (1, .ref 0), (2, .ref 393), (3, .int i)]) (st' := [.ref 393, .int v]) (h' := zN s1) (Ps := []) rfl trivial ?_
  refine zG_callv (a := 393) (c := 10) (As := []) (rest := [.int v]) (N2 := 411) bdL12_b okMo_fast lk13_71 (And.intro (by decide) (by decide)) (by decide) rfl rfl rfl (Nat.le_of_ble_eq_true rfl) (Nat.le_of_ble_eq_true rfl) (Nat.le_refl 411) (Nat.le_refl 411) zob_393 (tMo_fast (bMo_fast hb.1.1 hb.1.2 hb.2.1.1 hb.2.1.2 hb.2.2.1 hb.2.2.2 u6.1 u6.2)) ?_
  intro rr2 h2 hP2 _
  obtain ⟨t2, rfl, rfl, hR, hf2⟩ := hK _ rr2 h2 hT hP2
  refine zb_iceq (tgt := 1527) bkL12_c bdL12_c (by decide) (lv' := [(0, .ref 100001), (1, .ref 0), (2, .ref 393), (3, .int i)]) (st' := []) (h' := zN t2) (x := v) (y := v) (Ps := []) rfl trivial (fun _ => ?_) (fun q => absurd rfl q)
  exact kk t2 (law_R hR hf2) (law_s e hf2)
theorem bkL13_a : zBk mLaw_law 741 [(1, 1, 1, 0, 0), (1, 0, 1, 0, 0), (1, 3, 0, 0, 0), (0, 0, 0, 0, 1), (4, 0, 0, 0, 0), (7, 0, 0, 0, 0), (1, 0, 1, 0, 0), (1, 3, 0, 0, 0), (0, 0, 0, 0, 2), (4, 0, 0, 0, 0), (7, 0, 0, 0, 0)] = some 752 := by decide +kernel
theorem bkL13_b : zBk mLaw_law 755 [(1, 2, 1, 0, 0), (1, 0, 1, 0, 0), (1, 3, 0, 0, 0), (0, 0, 0, 0, 1), (4, 0, 0, 0, 0), (7, 0, 0, 0, 0), (1, 0, 1, 0, 0), (1, 3, 0, 0, 0), (0, 0, 0, 0, 2), (4, 0, 0, 0, 0), (7, 0, 0, 0, 0)] = some 766 := by decide +kernel
theorem bkL13_c : zBk mLaw_law 769 [] = some 769 := by decide +kernel
theorem bdL13_a : decode mLaw_law.2.2.1 752 = .ok (.invokevirtual 72, 3) := by decide +kernel
theorem bdL13_b : decode mLaw_law.2.2.1 766 = .ok (.invokevirtual 75, 3) := by decide +kernel
theorem bdL13_c : decode mLaw_law.2.2.1 769 = .ok (.if_icmp .eq 758, 3) := by decide +kernel
set_option maxHeartbeats 2000000 in
theorem law_pin {sg : zSig} {i : Int32} {Q : Option Value → zHp → Prop} (h : R2 sg sg) (hi : ∀ j, 0 ≤ j → j ≤ 8 → 0 ≤ i + j ∧ i + j < sg 100001 (-1)) (kk : ∀ sg', R2 sg' sg' → (∀ j, sg' 100001 j = sg 100001 j) → zG mLaw_law 411 Q 1527 [(0, .ref 100001), (1, .ref 0), (2, .ref 393), (3, .int i)] [] (zN sg')) : zG mLaw_law 411 Q 741 [(0, .ref 100001), (1, .ref 0), (2, .ref 393), (3, .int i)] [] (zN sg) := by
  refine zG_run bkL13_a (lv' := [(0, .ref 100001), (1, .ref 0), (2, .ref 393), (3, .int i)]) (st' := [.int (sg 100001 (i + 2)), .int (sg 100001 (i + 1)), .ref 0]) (h' := zN sg) (Ps := [zInL (zN sg) 100001 (i + 1), zInL (zN sg) 100001 (i + 2)]) rfl (zA (lin (hi 1 (by decide) (by decide))) (zA (lin (hi 2 (by decide) (by decide))) trivial)) ?_
  refine zG_callv (a := 0) (c := 9) (As := [.int (sg 100001 (i + 1)), .int (sg 100001 (i + 2))]) (rest := []) (N2 := 411) bdL13_a okSR_pin lk13_72 (And.intro (by decide) (by decide)) (by decide) rfl rfl rfl (Nat.le_of_ble_eq_true rfl) (Nat.le_of_ble_eq_true rfl) (Nat.le_refl 411) (Nat.le_refl 411) zob_0 (cSR_pin h.1.1.1 h.1.2.1.1.1 h.1.2.1.1.2 h.1.2.1.2.1.1 h.1.2.1.2.1.2) ?_
  intro rr h' hP _
  obtain ⟨v, s1, rfl, rfl, hf, hK⟩ := K_pin h rr h' hP
  have e : ∀ j, s1 100001 j = sg 100001 j := fun j => hf 100001 j (by decide)
  have hT : R2 sg (zup s1 393 0 0) := law_T h hf
  have hb := SR_b hT.1.1
  obtain ⟨u6, u11⟩ := law_u hT
  refine zG_run bkL13_b (lv' := [(0, .ref 100001), (1, .ref 0), (2, .ref 393), (3, .int i)]) (st' := [.int (s1 100001 (i + 2)), .int (s1 100001 (i + 1)), .ref 393, .int v]) (h' := zN s1) (Ps := [zInL (zN s1) 100001 (i + 1), zInL (zN s1) 100001 (i + 2)]) rfl (zA (lin (law_e e (hi 1 (by decide) (by decide)))) (zA (lin (law_e e (hi 2 (by decide) (by decide)))) trivial)) ?_
  simp only [e]
  refine zG_callv (a := 393) (c := 10) (As := [.int (sg 100001 (i + 1)), .int (sg 100001 (i + 2))]) (rest := [.int v]) (N2 := 411) bdL13_b okMo_pin lk13_75 (And.intro (by decide) (by decide)) (by decide) rfl rfl rfl (Nat.le_of_ble_eq_true rfl) (Nat.le_of_ble_eq_true rfl) (Nat.le_refl 411) (Nat.le_refl 411) zob_393 (tMo_pin (bMo_pin hb.1.1 hb.1.2 hb.2.1.1 hb.2.1.2 hb.2.2.1 hb.2.2.2 u6.1 u6.2)) ?_
  intro rr2 h2 hP2 _
  obtain ⟨t2, rfl, rfl, hR, hf2⟩ := hK _ rr2 h2 hT hP2
  refine zb_iceq (tgt := 1527) bkL13_c bdL13_c (by decide) (lv' := [(0, .ref 100001), (1, .ref 0), (2, .ref 393), (3, .int i)]) (st' := []) (h' := zN t2) (x := v) (y := v) (Ps := []) rfl trivial (fun _ => ?_) (fun q => absurd rfl q)
  exact kk t2 (law_R hR hf2) (law_s e hf2)
theorem bkL14_a : zBk mLaw_law 774 [(1, 1, 1, 0, 0), (1, 0, 1, 0, 0), (1, 3, 0, 0, 0), (0, 0, 0, 0, 1), (4, 0, 0, 0, 0), (7, 0, 0, 0, 0)] = some 780 := by decide +kernel
theorem bkL14_b : zBk mLaw_law 783 [(1, 2, 1, 0, 0), (1, 0, 1, 0, 0), (1, 3, 0, 0, 0), (0, 0, 0, 0, 1), (4, 0, 0, 0, 0), (7, 0, 0, 0, 0)] = some 789 := by decide +kernel
theorem bkL14_c : zBk mLaw_law 792 [] = some 792 := by decide +kernel
theorem bdL14_a : decode mLaw_law.2.2.1 780 = .ok (.invokevirtual 76, 3) := by decide +kernel
theorem bdL14_b : decode mLaw_law.2.2.1 789 = .ok (.invokevirtual 79, 3) := by decide +kernel
theorem bdL14_c : decode mLaw_law.2.2.1 792 = .ok (.if_icmp .eq 735, 3) := by decide +kernel
set_option maxHeartbeats 2000000 in
theorem law_unpin {sg : zSig} {i : Int32} {Q : Option Value → zHp → Prop} (h : R2 sg sg) (hi : ∀ j, 0 ≤ j → j ≤ 8 → 0 ≤ i + j ∧ i + j < sg 100001 (-1)) (kk : ∀ sg', R2 sg' sg' → (∀ j, sg' 100001 j = sg 100001 j) → zG mLaw_law 411 Q 1527 [(0, .ref 100001), (1, .ref 0), (2, .ref 393), (3, .int i)] [] (zN sg')) : zG mLaw_law 411 Q 774 [(0, .ref 100001), (1, .ref 0), (2, .ref 393), (3, .int i)] [] (zN sg) := by
  refine zG_run bkL14_a (lv' := [(0, .ref 100001), (1, .ref 0), (2, .ref 393), (3, .int i)]) (st' := [.int (sg 100001 (i + 1)), .ref 0]) (h' := zN sg) (Ps := [zInL (zN sg) 100001 (i + 1)]) rfl (zA (lin (hi 1 (by decide) (by decide))) trivial) ?_
  refine zG_callv (a := 0) (c := 9) (As := [.int (sg 100001 (i + 1))]) (rest := []) (N2 := 411) bdL14_a okSR_unpin lk13_76 (And.intro (by decide) (by decide)) (by decide) rfl rfl rfl (Nat.le_of_ble_eq_true rfl) (Nat.le_of_ble_eq_true rfl) (Nat.le_refl 411) (Nat.le_refl 411) zob_0 (cSR_unpin h.1.1.1 h.1.2.1.1.1 h.1.2.1.1.2 h.1.2.1.2.1.1 h.1.2.1.2.1.2) ?_
  intro rr h' hP _
  obtain ⟨v, s1, rfl, rfl, hf, hK⟩ := K_unpin h rr h' hP
  have e : ∀ j, s1 100001 j = sg 100001 j := fun j => hf 100001 j (by decide)
  have hT : R2 sg (zup s1 393 0 0) := law_T h hf
  have hb := SR_b hT.1.1
  obtain ⟨u6, u11⟩ := law_u hT
  refine zG_run bkL14_b (lv' := [(0, .ref 100001), (1, .ref 0), (2, .ref 393), (3, .int i)]) (st' := [.int (s1 100001 (i + 1)), .ref 393, .int v]) (h' := zN s1) (Ps := [zInL (zN s1) 100001 (i + 1)]) rfl (zA (lin (law_e e (hi 1 (by decide) (by decide)))) trivial) ?_
  simp only [e]
  refine zG_callv (a := 393) (c := 10) (As := [.int (sg 100001 (i + 1))]) (rest := [.int v]) (N2 := 411) bdL14_b okMo_unpin lk13_79 (And.intro (by decide) (by decide)) (by decide) rfl rfl rfl (Nat.le_of_ble_eq_true rfl) (Nat.le_of_ble_eq_true rfl) (Nat.le_refl 411) (Nat.le_refl 411) zob_393 (tMo_unpin (bMo_unpin hb.1.1 hb.1.2 hb.2.1.1 hb.2.1.2 hb.2.2.1 hb.2.2.2 u6.1 u6.2)) ?_
  intro rr2 h2 hP2 _
  obtain ⟨t2, rfl, rfl, hR, hf2⟩ := hK _ rr2 h2 hT hP2
  refine zb_iceq (tgt := 1527) bkL14_c bdL14_c (by decide) (lv' := [(0, .ref 100001), (1, .ref 0), (2, .ref 393), (3, .int i)]) (st' := []) (h' := zN t2) (x := v) (y := v) (Ps := []) rfl trivial (fun _ => ?_) (fun q => absurd rfl q)
  exact kk t2 (law_R hR hf2) (law_s e hf2)
theorem bkL15_a : zBk mLaw_law 797 [(1, 1, 1, 0, 0)] = some 798 := by decide +kernel
theorem bkL15_b : zBk mLaw_law 801 [(1, 2, 1, 0, 0)] = some 802 := by decide +kernel
theorem bkL15_c : zBk mLaw_law 805 [] = some 805 := by decide +kernel
theorem bdL15_a : decode mLaw_law.2.2.1 798 = .ok (.invokevirtual 80, 3) := by decide +kernel
theorem bdL15_b : decode mLaw_law.2.2.1 802 = .ok (.invokevirtual 83, 3) := by decide +kernel
theorem bdL15_c : decode mLaw_law.2.2.1 805 = .ok (.if_icmp .eq 722, 3) := by decide +kernel
set_option maxHeartbeats 2000000 in
theorem law_read {sg : zSig} {i : Int32} {Q : Option Value → zHp → Prop} (h : R2 sg sg) (hi : ∀ j, 0 ≤ j → j ≤ 8 → 0 ≤ i + j ∧ i + j < sg 100001 (-1)) (kk : ∀ sg', R2 sg' sg' → (∀ j, sg' 100001 j = sg 100001 j) → zG mLaw_law 411 Q 1527 [(0, .ref 100001), (1, .ref 0), (2, .ref 393), (3, .int i)] [] (zN sg')) : zG mLaw_law 411 Q 797 [(0, .ref 100001), (1, .ref 0), (2, .ref 393), (3, .int i)] [] (zN sg) := by
  refine zG_run bkL15_a (lv' := [(0, .ref 100001), (1, .ref 0), (2, .ref 393), (3, .int i)]) (st' := [.ref 0]) (h' := zN sg) (Ps := []) rfl trivial ?_
  refine zG_callv (a := 0) (c := 9) (As := []) (rest := []) (N2 := 411) bdL15_a okSR_read lk13_80 (And.intro (by decide) (by decide)) (by decide) rfl rfl rfl (Nat.le_of_ble_eq_true rfl) (Nat.le_of_ble_eq_true rfl) (Nat.le_refl 411) (Nat.le_refl 411) zob_0 (cSR_read h.1.1.1 h.1.2.1.1.1 h.1.2.1.1.2 h.1.2.1.2.1.1 h.1.2.1.2.1.2 h.2.1.1.1 h.2.1.1.2 h.1.2.2.2) ?_
  intro rr h' hP _
  obtain ⟨v, s1, rfl, rfl, hf, hK⟩ := K_read h rr h' hP
  have e : ∀ j, s1 100001 j = sg 100001 j := fun j => hf 100001 j (by decide)
  have hT : R2 sg (zup s1 393 0 0) := law_T h hf
  have hb := SR_b hT.1.1
  obtain ⟨u6, u11⟩ := law_u hT
  refine zG_run bkL15_b (lv' := [(0, .ref 100001), (1, .ref 0), (2, .ref 393), (3, .int i)]) (st' := [.ref 393, .int v]) (h' := zN s1) (Ps := []) rfl trivial ?_
  refine zG_callv (a := 393) (c := 10) (As := []) (rest := [.int v]) (N2 := 411) bdL15_b okMo_read lk13_83 (And.intro (by decide) (by decide)) (by decide) rfl rfl rfl (Nat.le_of_ble_eq_true rfl) (Nat.le_of_ble_eq_true rfl) (Nat.le_refl 411) (Nat.le_refl 411) zob_393 (tMo_read (J := JR sg) (bMo_read (J := JR sg) u6.1 u6.2 u11.1 u11.2 JR_0 (fun k s s' a b c d e => JR_s hT.2.1 a b c d e))) ?_
  intro rr2 h2 hP2 _
  obtain ⟨t2, rfl, rfl, hR, hf2⟩ := hK _ rr2 h2 hT hP2
  refine zb_iceq (tgt := 1527) bkL15_c bdL15_c (by decide) (lv' := [(0, .ref 100001), (1, .ref 0), (2, .ref 393), (3, .int i)]) (st' := []) (h' := zN t2) (x := v) (y := v) (Ps := []) rfl trivial (fun _ => ?_) (fun q => absurd rfl q)
  exact kk t2 (law_R hR hf2) (law_s e hf2)
theorem bkL16_a : zBk mLaw_law 810 [(1, 1, 1, 0, 0)] = some 811 := by decide +kernel
theorem bkL16_b : zBk mLaw_law 814 [(1, 2, 1, 0, 0)] = some 815 := by decide +kernel
theorem bkL16_c : zBk mLaw_law 818 [] = some 818 := by decide +kernel
theorem bdL16_a : decode mLaw_law.2.2.1 811 = .ok (.invokevirtual 84, 3) := by decide +kernel
theorem bdL16_b : decode mLaw_law.2.2.1 815 = .ok (.invokevirtual 87, 3) := by decide +kernel
theorem bdL16_c : decode mLaw_law.2.2.1 818 = .ok (.if_icmp .eq 709, 3) := by decide +kernel
set_option maxHeartbeats 2000000 in
theorem law_fault {sg : zSig} {i : Int32} {Q : Option Value → zHp → Prop} (h : R2 sg sg) (hi : ∀ j, 0 ≤ j → j ≤ 8 → 0 ≤ i + j ∧ i + j < sg 100001 (-1)) (kk : ∀ sg', R2 sg' sg' → (∀ j, sg' 100001 j = sg 100001 j) → zG mLaw_law 411 Q 1527 [(0, .ref 100001), (1, .ref 0), (2, .ref 393), (3, .int i)] [] (zN sg')) : zG mLaw_law 411 Q 810 [(0, .ref 100001), (1, .ref 0), (2, .ref 393), (3, .int i)] [] (zN sg) := by
  refine zG_run bkL16_a (lv' := [(0, .ref 100001), (1, .ref 0), (2, .ref 393), (3, .int i)]) (st' := [.ref 0]) (h' := zN sg) (Ps := []) rfl trivial ?_
  refine zG_callv (a := 0) (c := 9) (As := []) (rest := []) (N2 := 411) bdL16_a okSR_fault lk13_84 (And.intro (by decide) (by decide)) (by decide) rfl rfl rfl (Nat.le_of_ble_eq_true rfl) (Nat.le_of_ble_eq_true rfl) (Nat.le_refl 411) (Nat.le_refl 411) zob_0 (cSR_fault ) ?_
  intro rr h' hP _
  obtain ⟨v, s1, rfl, rfl, hf, hK⟩ := K_fault rr h' hP
  have e : ∀ j, s1 100001 j = sg 100001 j := fun j => hf 100001 j (by decide)
  have hT : R2 sg (zup s1 393 0 0) := law_T h hf
  have hb := SR_b hT.1.1
  obtain ⟨u6, u11⟩ := law_u hT
  refine zG_run bkL16_b (lv' := [(0, .ref 100001), (1, .ref 0), (2, .ref 393), (3, .int i)]) (st' := [.ref 393, .int v]) (h' := zN s1) (Ps := []) rfl trivial ?_
  refine zG_callv (a := 393) (c := 10) (As := []) (rest := [.int v]) (N2 := 411) bdL16_b okMo_fault lk13_87 (And.intro (by decide) (by decide)) (by decide) rfl rfl rfl (Nat.le_of_ble_eq_true rfl) (Nat.le_of_ble_eq_true rfl) (Nat.le_refl 411) (Nat.le_refl 411) zob_393 (tMo_fault (bMo_fault )) ?_
  intro rr2 h2 hP2 _
  obtain ⟨t2, rfl, rfl, hR, hf2⟩ := hK _ rr2 h2 hT hP2
  refine zb_iceq (tgt := 1527) bkL16_c bdL16_c (by decide) (lv' := [(0, .ref 100001), (1, .ref 0), (2, .ref 393), (3, .int i)]) (st' := []) (h' := zN t2) (x := v) (y := v) (Ps := []) rfl trivial (fun _ => ?_) (fun q => absurd rfl q)
  exact kk t2 (law_R hR hf2) (law_s e hf2)
theorem bkL17_a : zBk mLaw_law 823 [(1, 1, 1, 0, 0)] = some 824 := by decide +kernel
theorem bkL17_b : zBk mLaw_law 827 [(1, 2, 1, 0, 0)] = some 828 := by decide +kernel
theorem bkL17_c : zBk mLaw_law 831 [] = some 831 := by decide +kernel
theorem bdL17_a : decode mLaw_law.2.2.1 824 = .ok (.invokevirtual 88, 3) := by decide +kernel
theorem bdL17_b : decode mLaw_law.2.2.1 828 = .ok (.invokevirtual 91, 3) := by decide +kernel
theorem bdL17_c : decode mLaw_law.2.2.1 831 = .ok (.if_icmp .eq 696, 3) := by decide +kernel
set_option maxHeartbeats 2000000 in
theorem law_write {sg : zSig} {i : Int32} {Q : Option Value → zHp → Prop} (h : R2 sg sg) (hi : ∀ j, 0 ≤ j → j ≤ 8 → 0 ≤ i + j ∧ i + j < sg 100001 (-1)) (kk : ∀ sg', R2 sg' sg' → (∀ j, sg' 100001 j = sg 100001 j) → zG mLaw_law 411 Q 1527 [(0, .ref 100001), (1, .ref 0), (2, .ref 393), (3, .int i)] [] (zN sg')) : zG mLaw_law 411 Q 823 [(0, .ref 100001), (1, .ref 0), (2, .ref 393), (3, .int i)] [] (zN sg) := by
  refine zG_run bkL17_a (lv' := [(0, .ref 100001), (1, .ref 0), (2, .ref 393), (3, .int i)]) (st' := [.ref 0]) (h' := zN sg) (Ps := []) rfl trivial ?_
  refine zG_callv (a := 0) (c := 9) (As := []) (rest := []) (N2 := 411) bdL17_a okSR_write lk13_88 (And.intro (by decide) (by decide)) (by decide) rfl rfl rfl (Nat.le_of_ble_eq_true rfl) (Nat.le_of_ble_eq_true rfl) (Nat.le_refl 411) (Nat.le_refl 411) zob_0 (cSR_write h.1.1.1 h.1.2.1.1.1 h.1.2.1.1.2 h.1.2.1.2.1.1 h.1.2.1.2.1.2 h.2.1.1.1 h.2.1.1.2 h.2.2.2) ?_
  intro rr h' hP _
  obtain ⟨v, s1, rfl, rfl, hf, hK⟩ := K_write h rr h' hP
  have e : ∀ j, s1 100001 j = sg 100001 j := fun j => hf 100001 j (by decide)
  have hT : R2 sg (zup s1 393 0 0) := law_T h hf
  have hb := SR_b hT.1.1
  obtain ⟨u6, u11⟩ := law_u hT
  refine zG_run bkL17_b (lv' := [(0, .ref 100001), (1, .ref 0), (2, .ref 393), (3, .int i)]) (st' := [.ref 393, .int v]) (h' := zN s1) (Ps := []) rfl trivial ?_
  refine zG_callv (a := 393) (c := 10) (As := []) (rest := [.int v]) (N2 := 411) bdL17_b okMo_write lk13_91 (And.intro (by decide) (by decide)) (by decide) rfl rfl rfl (Nat.le_of_ble_eq_true rfl) (Nat.le_of_ble_eq_true rfl) (Nat.le_refl 411) (Nat.le_refl 411) zob_393 (tMo_write (bMo_write hb.1.1 hb.1.2 hb.2.1.1 hb.2.1.2)) ?_
  intro rr2 h2 hP2 _
  obtain ⟨t2, rfl, rfl, hR, hf2⟩ := hK _ rr2 h2 hT hP2
  refine zb_iceq (tgt := 1527) bkL17_c bdL17_c (by decide) (lv' := [(0, .ref 100001), (1, .ref 0), (2, .ref 393), (3, .int i)]) (st' := []) (h' := zN t2) (x := v) (y := v) (Ps := []) rfl trivial (fun _ => ?_) (fun q => absurd rfl q)
  exact kk t2 (law_R hR hf2) (law_s e hf2)
theorem bkL18_a : zBk mLaw_law 836 [(1, 1, 1, 0, 0)] = some 837 := by decide +kernel
theorem bkL18_b : zBk mLaw_law 840 [(1, 2, 1, 0, 0)] = some 841 := by decide +kernel
theorem bkL18_c : zBk mLaw_law 844 [] = some 844 := by decide +kernel
theorem bdL18_a : decode mLaw_law.2.2.1 837 = .ok (.invokevirtual 92, 3) := by decide +kernel
theorem bdL18_b : decode mLaw_law.2.2.1 841 = .ok (.invokevirtual 95, 3) := by decide +kernel
theorem bdL18_c : decode mLaw_law.2.2.1 844 = .ok (.if_icmp .eq 683, 3) := by decide +kernel
set_option maxHeartbeats 2000000 in
theorem law_undo {sg : zSig} {i : Int32} {Q : Option Value → zHp → Prop} (h : R2 sg sg) (hi : ∀ j, 0 ≤ j → j ≤ 8 → 0 ≤ i + j ∧ i + j < sg 100001 (-1)) (kk : ∀ sg', R2 sg' sg' → (∀ j, sg' 100001 j = sg 100001 j) → zG mLaw_law 411 Q 1527 [(0, .ref 100001), (1, .ref 0), (2, .ref 393), (3, .int i)] [] (zN sg')) : zG mLaw_law 411 Q 836 [(0, .ref 100001), (1, .ref 0), (2, .ref 393), (3, .int i)] [] (zN sg) := by
  refine zG_run bkL18_a (lv' := [(0, .ref 100001), (1, .ref 0), (2, .ref 393), (3, .int i)]) (st' := [.ref 0]) (h' := zN sg) (Ps := []) rfl trivial ?_
  refine zG_callv (a := 0) (c := 9) (As := []) (rest := []) (N2 := 411) bdL18_a okSR_undo lk13_92 (And.intro (by decide) (by decide)) (by decide) rfl rfl rfl (Nat.le_of_ble_eq_true rfl) (Nat.le_of_ble_eq_true rfl) (Nat.le_refl 411) (Nat.le_refl 411) zob_0 (cSR_undo h.1.2.1.1.1 h.1.2.1.1.2 h.1.2.1.2.1.1 h.1.2.1.2.1.2 (fun q => (h.1.2.1.2.2.2 1 (by decide) q).1.1)) ?_
  intro rr h' hP _
  obtain ⟨v, s1, rfl, rfl, hf, hK⟩ := K_undo h rr h' hP
  have e : ∀ j, s1 100001 j = sg 100001 j := fun j => hf 100001 j (by decide)
  have hT : R2 sg (zup s1 393 0 0) := law_T h hf
  have hb := SR_b hT.1.1
  obtain ⟨u6, u11⟩ := law_u hT
  refine zG_run bkL18_b (lv' := [(0, .ref 100001), (1, .ref 0), (2, .ref 393), (3, .int i)]) (st' := [.ref 393, .int v]) (h' := zN s1) (Ps := []) rfl trivial ?_
  refine zG_callv (a := 393) (c := 10) (As := []) (rest := [.int v]) (N2 := 411) bdL18_b okMo_undo lk13_95 (And.intro (by decide) (by decide)) (by decide) rfl rfl rfl (Nat.le_of_ble_eq_true rfl) (Nat.le_of_ble_eq_true rfl) (Nat.le_refl 411) (Nat.le_refl 411) zob_393 (tMo_undo (bMo_undo hb.1.1 hb.1.2 hb.2.1.1 hb.2.1.2 hb.2.2.1 hb.2.2.2 u6.1 u6.2)) ?_
  intro rr2 h2 hP2 _
  obtain ⟨t2, rfl, rfl, hR, hf2⟩ := hK _ rr2 h2 hT hP2
  refine zb_iceq (tgt := 1527) bkL18_c bdL18_c (by decide) (lv' := [(0, .ref 100001), (1, .ref 0), (2, .ref 393), (3, .int i)]) (st' := []) (h' := zN t2) (x := v) (y := v) (Ps := []) rfl trivial (fun _ => ?_) (fun q => absurd rfl q)
  exact kk t2 (law_R hR hf2) (law_s e hf2)
theorem bkL19_a : zBk mLaw_law 849 [(1, 1, 1, 0, 0), (1, 0, 1, 0, 0), (1, 3, 0, 0, 0), (0, 0, 0, 0, 1), (4, 0, 0, 0, 0), (7, 0, 0, 0, 0)] = some 855 := by decide +kernel
theorem bkL19_b : zBk mLaw_law 858 [(1, 2, 1, 0, 0), (1, 0, 1, 0, 0), (1, 3, 0, 0, 0), (0, 0, 0, 0, 1), (4, 0, 0, 0, 0), (7, 0, 0, 0, 0)] = some 864 := by decide +kernel
theorem bkL19_c : zBk mLaw_law 867 [] = some 867 := by decide +kernel
theorem bdL19_a : decode mLaw_law.2.2.1 855 = .ok (.invokevirtual 96, 3) := by decide +kernel
theorem bdL19_b : decode mLaw_law.2.2.1 864 = .ok (.invokevirtual 99, 3) := by decide +kernel
theorem bdL19_c : decode mLaw_law.2.2.1 867 = .ok (.if_icmp .eq 660, 3) := by decide +kernel
set_option maxHeartbeats 2000000 in
theorem law_image {sg : zSig} {i : Int32} {Q : Option Value → zHp → Prop} (h : R2 sg sg) (hi : ∀ j, 0 ≤ j → j ≤ 8 → 0 ≤ i + j ∧ i + j < sg 100001 (-1)) (kk : ∀ sg', R2 sg' sg' → (∀ j, sg' 100001 j = sg 100001 j) → zG mLaw_law 411 Q 1527 [(0, .ref 100001), (1, .ref 0), (2, .ref 393), (3, .int i)] [] (zN sg')) : zG mLaw_law 411 Q 849 [(0, .ref 100001), (1, .ref 0), (2, .ref 393), (3, .int i)] [] (zN sg) := by
  refine zG_run bkL19_a (lv' := [(0, .ref 100001), (1, .ref 0), (2, .ref 393), (3, .int i)]) (st' := [.int (sg 100001 (i + 1)), .ref 0]) (h' := zN sg) (Ps := [zInL (zN sg) 100001 (i + 1)]) rfl (zA (lin (hi 1 (by decide) (by decide))) trivial) ?_
  refine zG_callv (a := 0) (c := 9) (As := [.int (sg 100001 (i + 1))]) (rest := []) (N2 := 411) bdL19_a okSR_image lk13_96 (And.intro (by decide) (by decide)) (by decide) rfl rfl rfl (Nat.le_of_ble_eq_true rfl) (Nat.le_of_ble_eq_true rfl) (Nat.le_refl 411) (Nat.le_refl 411) zob_0 (cSR_image h.1.1.1 h.1.2.1.1.1 h.1.2.1.1.2 h.1.2.1.2.1.1 h.1.2.1.2.1.2) ?_
  intro rr h' hP _
  obtain ⟨v, s1, rfl, rfl, hf, hK⟩ := K_image h rr h' hP
  have e : ∀ j, s1 100001 j = sg 100001 j := fun j => hf 100001 j (by decide)
  have hT : R2 sg (zup s1 393 0 0) := law_T h hf
  have hb := SR_b hT.1.1
  obtain ⟨u6, u11⟩ := law_u hT
  refine zG_run bkL19_b (lv' := [(0, .ref 100001), (1, .ref 0), (2, .ref 393), (3, .int i)]) (st' := [.int (s1 100001 (i + 1)), .ref 393, .int v]) (h' := zN s1) (Ps := [zInL (zN s1) 100001 (i + 1)]) rfl (zA (lin (law_e e (hi 1 (by decide) (by decide)))) trivial) ?_
  simp only [e]
  refine zG_callv (a := 393) (c := 10) (As := [.int (sg 100001 (i + 1))]) (rest := [.int v]) (N2 := 411) bdL19_b okMo_image lk13_99 (And.intro (by decide) (by decide)) (by decide) rfl rfl rfl (Nat.le_of_ble_eq_true rfl) (Nat.le_of_ble_eq_true rfl) (Nat.le_refl 411) (Nat.le_refl 411) zob_393 (tMo_image (bMo_image hb.1.1 hb.1.2 hb.2.1.1 hb.2.1.2 hb.2.2.1 hb.2.2.2 u6.1 u6.2)) ?_
  intro rr2 h2 hP2 _
  obtain ⟨t2, rfl, rfl, hR, hf2⟩ := hK _ rr2 h2 hT hP2
  refine zb_iceq (tgt := 1527) bkL19_c bdL19_c (by decide) (lv' := [(0, .ref 100001), (1, .ref 0), (2, .ref 393), (3, .int i)]) (st' := []) (h' := zN t2) (x := v) (y := v) (Ps := []) rfl trivial (fun _ => ?_) (fun q => absurd rfl q)
  exact kk t2 (law_R hR hf2) (law_s e hf2)
theorem bkL20_a : zBk mLaw_law 872 [(1, 1, 1, 0, 0), (1, 0, 1, 0, 0), (1, 3, 0, 0, 0), (0, 0, 0, 0, 1), (4, 0, 0, 0, 0), (7, 0, 0, 0, 0)] = some 878 := by decide +kernel
theorem bkL20_b : zBk mLaw_law 881 [(1, 2, 1, 0, 0), (1, 0, 1, 0, 0), (1, 3, 0, 0, 0), (0, 0, 0, 0, 1), (4, 0, 0, 0, 0), (7, 0, 0, 0, 0)] = some 887 := by decide +kernel
theorem bkL20_c : zBk mLaw_law 890 [] = some 890 := by decide +kernel
theorem bdL20_a : decode mLaw_law.2.2.1 878 = .ok (.invokevirtual 100, 3) := by decide +kernel
theorem bdL20_b : decode mLaw_law.2.2.1 887 = .ok (.invokevirtual 103, 3) := by decide +kernel
theorem bdL20_c : decode mLaw_law.2.2.1 890 = .ok (.if_icmp .eq 637, 3) := by decide +kernel
set_option maxHeartbeats 2000000 in
theorem law_back {sg : zSig} {i : Int32} {Q : Option Value → zHp → Prop} (h : R2 sg sg) (hi : ∀ j, 0 ≤ j → j ≤ 8 → 0 ≤ i + j ∧ i + j < sg 100001 (-1)) (kk : ∀ sg', R2 sg' sg' → (∀ j, sg' 100001 j = sg 100001 j) → zG mLaw_law 411 Q 1527 [(0, .ref 100001), (1, .ref 0), (2, .ref 393), (3, .int i)] [] (zN sg')) : zG mLaw_law 411 Q 872 [(0, .ref 100001), (1, .ref 0), (2, .ref 393), (3, .int i)] [] (zN sg) := by
  refine zG_run bkL20_a (lv' := [(0, .ref 100001), (1, .ref 0), (2, .ref 393), (3, .int i)]) (st' := [.int (sg 100001 (i + 1)), .ref 0]) (h' := zN sg) (Ps := [zInL (zN sg) 100001 (i + 1)]) rfl (zA (lin (hi 1 (by decide) (by decide))) trivial) ?_
  refine zG_callv (a := 0) (c := 9) (As := [.int (sg 100001 (i + 1))]) (rest := []) (N2 := 411) bdL20_a okSR_back lk13_100 (And.intro (by decide) (by decide)) (by decide) rfl rfl rfl (Nat.le_of_ble_eq_true rfl) (Nat.le_of_ble_eq_true rfl) (Nat.le_refl 411) (Nat.le_refl 411) zob_0 (cSR_back h.1.1.1 h.1.2.1.1.1 h.1.2.1.1.2 h.1.2.1.2.1.1 h.1.2.1.2.1.2 (fun k k0 k1 q => ((h.1.2.2.1 k k0 k1).2 q).1)) ?_
  intro rr h' hP _
  obtain ⟨v, s1, rfl, rfl, hf, hK⟩ := K_back h rr h' hP
  have e : ∀ j, s1 100001 j = sg 100001 j := fun j => hf 100001 j (by decide)
  have hT : R2 sg (zup s1 393 0 0) := law_T h hf
  have hb := SR_b hT.1.1
  obtain ⟨u6, u11⟩ := law_u hT
  refine zG_run bkL20_b (lv' := [(0, .ref 100001), (1, .ref 0), (2, .ref 393), (3, .int i)]) (st' := [.int (s1 100001 (i + 1)), .ref 393, .int v]) (h' := zN s1) (Ps := [zInL (zN s1) 100001 (i + 1)]) rfl (zA (lin (law_e e (hi 1 (by decide) (by decide)))) trivial) ?_
  simp only [e]
  refine zG_callv (a := 393) (c := 10) (As := [.int (sg 100001 (i + 1))]) (rest := [.int v]) (N2 := 411) bdL20_b okMo_back lk13_103 (And.intro (by decide) (by decide)) (by decide) rfl rfl rfl (Nat.le_of_ble_eq_true rfl) (Nat.le_of_ble_eq_true rfl) (Nat.le_refl 411) (Nat.le_refl 411) zob_393 (tMo_back (bMo_back hb.1.1 hb.1.2 hb.2.1.1 hb.2.1.2 hb.2.2.1 hb.2.2.2 u6.1 u6.2)) ?_
  intro rr2 h2 hP2 _
  obtain ⟨t2, rfl, rfl, hR, hf2⟩ := hK _ rr2 h2 hT hP2
  refine zb_iceq (tgt := 1527) bkL20_c bdL20_c (by decide) (lv' := [(0, .ref 100001), (1, .ref 0), (2, .ref 393), (3, .int i)]) (st' := []) (h' := zN t2) (x := v) (y := v) (Ps := []) rfl trivial (fun _ => ?_) (fun q => absurd rfl q)
  exact kk t2 (law_R hR hf2) (law_s e hf2)
theorem bkL21_a : zBk mLaw_law 895 [(1, 1, 1, 0, 0), (1, 0, 1, 0, 0), (1, 3, 0, 0, 0), (0, 0, 0, 0, 1), (4, 0, 0, 0, 0), (7, 0, 0, 0, 0)] = some 901 := by decide +kernel
theorem bkL21_b : zBk mLaw_law 904 [(1, 2, 1, 0, 0), (1, 0, 1, 0, 0), (1, 3, 0, 0, 0), (0, 0, 0, 0, 1), (4, 0, 0, 0, 0), (7, 0, 0, 0, 0)] = some 910 := by decide +kernel
theorem bkL21_c : zBk mLaw_law 913 [] = some 913 := by decide +kernel
theorem bdL21_a : decode mLaw_law.2.2.1 901 = .ok (.invokevirtual 104, 3) := by decide +kernel
theorem bdL21_b : decode mLaw_law.2.2.1 910 = .ok (.invokevirtual 107, 3) := by decide +kernel
theorem bdL21_c : decode mLaw_law.2.2.1 913 = .ok (.if_icmp .eq 614, 3) := by decide +kernel
set_option maxHeartbeats 2000000 in
theorem law_letter {sg : zSig} {i : Int32} {Q : Option Value → zHp → Prop} (h : R2 sg sg) (hi : ∀ j, 0 ≤ j → j ≤ 8 → 0 ≤ i + j ∧ i + j < sg 100001 (-1)) (kk : ∀ sg', R2 sg' sg' → (∀ j, sg' 100001 j = sg 100001 j) → zG mLaw_law 411 Q 1527 [(0, .ref 100001), (1, .ref 0), (2, .ref 393), (3, .int i)] [] (zN sg')) : zG mLaw_law 411 Q 895 [(0, .ref 100001), (1, .ref 0), (2, .ref 393), (3, .int i)] [] (zN sg) := by
  refine zG_run bkL21_a (lv' := [(0, .ref 100001), (1, .ref 0), (2, .ref 393), (3, .int i)]) (st' := [.int (sg 100001 (i + 1)), .ref 0]) (h' := zN sg) (Ps := [zInL (zN sg) 100001 (i + 1)]) rfl (zA (lin (hi 1 (by decide) (by decide))) trivial) ?_
  refine zG_callv (a := 0) (c := 9) (As := [.int (sg 100001 (i + 1))]) (rest := []) (N2 := 411) bdL21_a okSR_letter lk13_104 (And.intro (by decide) (by decide)) (by decide) rfl rfl rfl (Nat.le_of_ble_eq_true rfl) (Nat.le_of_ble_eq_true rfl) (Nat.le_refl 411) (Nat.le_refl 411) zob_0 (cSR_letter h.1.1.1.1.2) ?_
  intro rr h' hP _
  obtain ⟨v, s1, rfl, rfl, hf, hK⟩ := K_letter rr h' hP
  have e : ∀ j, s1 100001 j = sg 100001 j := fun j => hf 100001 j (by decide)
  have hT : R2 sg (zup s1 393 0 0) := law_T h hf
  have hb := SR_b hT.1.1
  obtain ⟨u6, u11⟩ := law_u hT
  refine zG_run bkL21_b (lv' := [(0, .ref 100001), (1, .ref 0), (2, .ref 393), (3, .int i)]) (st' := [.int (s1 100001 (i + 1)), .ref 393, .int v]) (h' := zN s1) (Ps := [zInL (zN s1) 100001 (i + 1)]) rfl (zA (lin (law_e e (hi 1 (by decide) (by decide)))) trivial) ?_
  simp only [e]
  refine zG_callv (a := 393) (c := 10) (As := [.int (sg 100001 (i + 1))]) (rest := [.int v]) (N2 := 411) bdL21_b okMo_letter lk13_107 (And.intro (by decide) (by decide)) (by decide) rfl rfl rfl (Nat.le_of_ble_eq_true rfl) (Nat.le_of_ble_eq_true rfl) (Nat.le_refl 411) (Nat.le_refl 411) zob_393 (tMo_letter (bMo_letter hb.1.2)) ?_
  intro rr2 h2 hP2 _
  obtain ⟨t2, rfl, rfl, hR, hf2⟩ := hK _ rr2 h2 hT hP2
  refine zb_iceq (tgt := 1527) bkL21_c bdL21_c (by decide) (lv' := [(0, .ref 100001), (1, .ref 0), (2, .ref 393), (3, .int i)]) (st' := []) (h' := zN t2) (x := v) (y := v) (Ps := []) rfl trivial (fun _ => ?_) (fun q => absurd rfl q)
  exact kk t2 (law_R hR hf2) (law_s e hf2)
theorem bkL22_a : zBk mLaw_law 918 [(1, 1, 1, 0, 0), (1, 0, 1, 0, 0), (1, 3, 0, 0, 0), (0, 0, 0, 0, 1), (4, 0, 0, 0, 0), (7, 0, 0, 0, 0), (1, 0, 1, 0, 0), (1, 3, 0, 0, 0), (0, 0, 0, 0, 2), (4, 0, 0, 0, 0), (7, 0, 0, 0, 0)] = some 929 := by decide +kernel
theorem bkL22_b : zBk mLaw_law 932 [(1, 2, 1, 0, 0), (1, 0, 1, 0, 0), (1, 3, 0, 0, 0), (0, 0, 0, 0, 1), (4, 0, 0, 0, 0), (7, 0, 0, 0, 0), (1, 0, 1, 0, 0), (1, 3, 0, 0, 0), (0, 0, 0, 0, 2), (4, 0, 0, 0, 0), (7, 0, 0, 0, 0)] = some 943 := by decide +kernel
theorem bkL22_c : zBk mLaw_law 946 [] = some 946 := by decide +kernel
theorem bdL22_a : decode mLaw_law.2.2.1 929 = .ok (.invokevirtual 108, 3) := by decide +kernel
theorem bdL22_b : decode mLaw_law.2.2.1 943 = .ok (.invokevirtual 111, 3) := by decide +kernel
theorem bdL22_c : decode mLaw_law.2.2.1 946 = .ok (.if_icmp .eq 581, 3) := by decide +kernel
set_option maxHeartbeats 2000000 in
theorem law_style {sg : zSig} {i : Int32} {Q : Option Value → zHp → Prop} (h : R2 sg sg) (hi : ∀ j, 0 ≤ j → j ≤ 8 → 0 ≤ i + j ∧ i + j < sg 100001 (-1)) (kk : ∀ sg', R2 sg' sg' → (∀ j, sg' 100001 j = sg 100001 j) → zG mLaw_law 411 Q 1527 [(0, .ref 100001), (1, .ref 0), (2, .ref 393), (3, .int i)] [] (zN sg')) : zG mLaw_law 411 Q 918 [(0, .ref 100001), (1, .ref 0), (2, .ref 393), (3, .int i)] [] (zN sg) := by
  refine zG_run bkL22_a (lv' := [(0, .ref 100001), (1, .ref 0), (2, .ref 393), (3, .int i)]) (st' := [.int (sg 100001 (i + 2)), .int (sg 100001 (i + 1)), .ref 0]) (h' := zN sg) (Ps := [zInL (zN sg) 100001 (i + 1), zInL (zN sg) 100001 (i + 2)]) rfl (zA (lin (hi 1 (by decide) (by decide))) (zA (lin (hi 2 (by decide) (by decide))) trivial)) ?_
  refine zG_callv (a := 0) (c := 9) (As := [.int (sg 100001 (i + 1)), .int (sg 100001 (i + 2))]) (rest := []) (N2 := 411) bdL22_a okSR_style lk13_108 (And.intro (by decide) (by decide)) (by decide) rfl rfl rfl (Nat.le_of_ble_eq_true rfl) (Nat.le_of_ble_eq_true rfl) (Nat.le_refl 411) (Nat.le_refl 411) zob_0 (cSR_style h.1.1.1 h.1.2.1.1.1 h.1.2.1.1.2 h.1.2.1.2.1.1 h.1.2.1.2.1.2 h.2.2.2) ?_
  intro rr h' hP _
  obtain ⟨v, s1, rfl, rfl, hf, hK⟩ := K_style rr h' hP
  have e : ∀ j, s1 100001 j = sg 100001 j := fun j => hf 100001 j (by decide)
  have hT : R2 sg (zup s1 393 0 0) := law_T h hf
  have hb := SR_b hT.1.1
  obtain ⟨u6, u11⟩ := law_u hT
  refine zG_run bkL22_b (lv' := [(0, .ref 100001), (1, .ref 0), (2, .ref 393), (3, .int i)]) (st' := [.int (s1 100001 (i + 2)), .int (s1 100001 (i + 1)), .ref 393, .int v]) (h' := zN s1) (Ps := [zInL (zN s1) 100001 (i + 1), zInL (zN s1) 100001 (i + 2)]) rfl (zA (lin (law_e e (hi 1 (by decide) (by decide)))) (zA (lin (law_e e (hi 2 (by decide) (by decide)))) trivial)) ?_
  simp only [e]
  refine zG_callv (a := 393) (c := 10) (As := [.int (sg 100001 (i + 1)), .int (sg 100001 (i + 2))]) (rest := [.int v]) (N2 := 411) bdL22_b okMo_style lk13_111 (And.intro (by decide) (by decide)) (by decide) rfl rfl rfl (Nat.le_of_ble_eq_true rfl) (Nat.le_of_ble_eq_true rfl) (Nat.le_refl 411) (Nat.le_refl 411) zob_393 (tMo_style (bMo_style hb.1.1 hb.1.2 hb.2.1.1 hb.2.1.2 (SR_P hT.1.1))) ?_
  intro rr2 h2 hP2 _
  obtain ⟨t2, rfl, rfl, hR, hf2⟩ := hK _ rr2 h2 hT hP2
  refine zb_iceq (tgt := 1527) bkL22_c bdL22_c (by decide) (lv' := [(0, .ref 100001), (1, .ref 0), (2, .ref 393), (3, .int i)]) (st' := []) (h' := zN t2) (x := v) (y := v) (Ps := []) rfl trivial (fun _ => ?_) (fun q => absurd rfl q)
  exact kk t2 (law_R hR hf2) (law_s e hf2)
theorem bkL23_a : zBk mLaw_law 951 [(1, 1, 1, 0, 0), (1, 0, 1, 0, 0), (1, 3, 0, 0, 0), (0, 0, 0, 0, 1), (4, 0, 0, 0, 0), (7, 0, 0, 0, 0), (1, 0, 1, 0, 0), (1, 3, 0, 0, 0), (0, 0, 0, 0, 2), (4, 0, 0, 0, 0), (7, 0, 0, 0, 0)] = some 962 := by decide +kernel
theorem bkL23_b : zBk mLaw_law 965 [(1, 2, 1, 0, 0), (1, 0, 1, 0, 0), (1, 3, 0, 0, 0), (0, 0, 0, 0, 1), (4, 0, 0, 0, 0), (7, 0, 0, 0, 0), (1, 0, 1, 0, 0), (1, 3, 0, 0, 0), (0, 0, 0, 0, 2), (4, 0, 0, 0, 0), (7, 0, 0, 0, 0)] = some 976 := by decide +kernel
theorem bkL23_c : zBk mLaw_law 979 [] = some 979 := by decide +kernel
theorem bdL23_a : decode mLaw_law.2.2.1 962 = .ok (.invokevirtual 112, 3) := by decide +kernel
theorem bdL23_b : decode mLaw_law.2.2.1 976 = .ok (.invokevirtual 115, 3) := by decide +kernel
theorem bdL23_c : decode mLaw_law.2.2.1 979 = .ok (.if_icmp .eq 548, 3) := by decide +kernel
set_option maxHeartbeats 2000000 in
theorem law_run {sg : zSig} {i : Int32} {Q : Option Value → zHp → Prop} (h : R2 sg sg) (hi : ∀ j, 0 ≤ j → j ≤ 8 → 0 ≤ i + j ∧ i + j < sg 100001 (-1)) (kk : ∀ sg', R2 sg' sg' → (∀ j, sg' 100001 j = sg 100001 j) → zG mLaw_law 411 Q 1527 [(0, .ref 100001), (1, .ref 0), (2, .ref 393), (3, .int i)] [] (zN sg')) : zG mLaw_law 411 Q 951 [(0, .ref 100001), (1, .ref 0), (2, .ref 393), (3, .int i)] [] (zN sg) := by
  refine zG_run bkL23_a (lv' := [(0, .ref 100001), (1, .ref 0), (2, .ref 393), (3, .int i)]) (st' := [.int (sg 100001 (i + 2)), .int (sg 100001 (i + 1)), .ref 0]) (h' := zN sg) (Ps := [zInL (zN sg) 100001 (i + 1), zInL (zN sg) 100001 (i + 2)]) rfl (zA (lin (hi 1 (by decide) (by decide))) (zA (lin (hi 2 (by decide) (by decide))) trivial)) ?_
  refine zG_callv (a := 0) (c := 9) (As := [.int (sg 100001 (i + 1)), .int (sg 100001 (i + 2))]) (rest := []) (N2 := 411) bdL23_a okSR_run lk13_112 (And.intro (by decide) (by decide)) (by decide) rfl rfl rfl (Nat.le_of_ble_eq_true rfl) (Nat.le_of_ble_eq_true rfl) (Nat.le_refl 411) (Nat.le_refl 411) zob_0 (cSR_run h.1.1.1 h.1.2.1.1.1 h.1.2.1.1.2 h.1.2.1.2.1.1 h.1.2.1.2.1.2 h.2.2.2) ?_
  intro rr h' hP _
  obtain ⟨v, s1, rfl, rfl, hf, hK⟩ := K_run rr h' hP
  have e : ∀ j, s1 100001 j = sg 100001 j := fun j => hf 100001 j (by decide)
  have hT : R2 sg (zup s1 393 0 0) := law_T h hf
  have hb := SR_b hT.1.1
  obtain ⟨u6, u11⟩ := law_u hT
  refine zG_run bkL23_b (lv' := [(0, .ref 100001), (1, .ref 0), (2, .ref 393), (3, .int i)]) (st' := [.int (s1 100001 (i + 2)), .int (s1 100001 (i + 1)), .ref 393, .int v]) (h' := zN s1) (Ps := [zInL (zN s1) 100001 (i + 1), zInL (zN s1) 100001 (i + 2)]) rfl (zA (lin (law_e e (hi 1 (by decide) (by decide)))) (zA (lin (law_e e (hi 2 (by decide) (by decide)))) trivial)) ?_
  simp only [e]
  refine zG_callv (a := 393) (c := 10) (As := [.int (sg 100001 (i + 1)), .int (sg 100001 (i + 2))]) (rest := [.int v]) (N2 := 411) bdL23_b okMo_run lk13_115 (And.intro (by decide) (by decide)) (by decide) rfl rfl rfl (Nat.le_of_ble_eq_true rfl) (Nat.le_of_ble_eq_true rfl) (Nat.le_refl 411) (Nat.le_refl 411) zob_393 (tMo_run (bMo_run hb.1.1 hb.1.2 hb.2.1.1 hb.2.1.2 (fun q => ne1 (fOf_nn (SR_style hT.1.1 (Int32.le_refl _) q).2).1))) ?_
  intro rr2 h2 hP2 _
  obtain ⟨t2, rfl, rfl, hR, hf2⟩ := hK _ rr2 h2 hT hP2
  refine zb_iceq (tgt := 1527) bkL23_c bdL23_c (by decide) (lv' := [(0, .ref 100001), (1, .ref 0), (2, .ref 393), (3, .int i)]) (st' := []) (h' := zN t2) (x := v) (y := v) (Ps := []) rfl trivial (fun _ => ?_) (fun q => absurd rfl q)
  exact kk t2 (law_R hR hf2) (law_s e hf2)
theorem bkL24_a : zBk mLaw_law 984 [(1, 1, 1, 0, 0), (1, 0, 1, 0, 0), (1, 3, 0, 0, 0), (0, 0, 0, 0, 1), (4, 0, 0, 0, 0), (7, 0, 0, 0, 0), (1, 0, 1, 0, 0), (1, 3, 0, 0, 0), (0, 0, 0, 0, 2), (4, 0, 0, 0, 0), (7, 0, 0, 0, 0)] = some 995 := by decide +kernel
theorem bkL24_b : zBk mLaw_law 998 [(1, 2, 1, 0, 0), (1, 0, 1, 0, 0), (1, 3, 0, 0, 0), (0, 0, 0, 0, 1), (4, 0, 0, 0, 0), (7, 0, 0, 0, 0), (1, 0, 1, 0, 0), (1, 3, 0, 0, 0), (0, 0, 0, 0, 2), (4, 0, 0, 0, 0), (7, 0, 0, 0, 0)] = some 1009 := by decide +kernel
theorem bkL24_c : zBk mLaw_law 1012 [] = some 1012 := by decide +kernel
theorem bdL24_a : decode mLaw_law.2.2.1 995 = .ok (.invokevirtual 116, 3) := by decide +kernel
theorem bdL24_b : decode mLaw_law.2.2.1 1009 = .ok (.invokevirtual 119, 3) := by decide +kernel
theorem bdL24_c : decode mLaw_law.2.2.1 1012 = .ok (.if_icmp .eq 515, 3) := by decide +kernel
set_option maxHeartbeats 2000000 in
theorem law_stack {sg : zSig} {i : Int32} {Q : Option Value → zHp → Prop} (h : R2 sg sg) (hi : ∀ j, 0 ≤ j → j ≤ 8 → 0 ≤ i + j ∧ i + j < sg 100001 (-1)) (kk : ∀ sg', R2 sg' sg' → (∀ j, sg' 100001 j = sg 100001 j) → zG mLaw_law 411 Q 1527 [(0, .ref 100001), (1, .ref 0), (2, .ref 393), (3, .int i)] [] (zN sg')) : zG mLaw_law 411 Q 984 [(0, .ref 100001), (1, .ref 0), (2, .ref 393), (3, .int i)] [] (zN sg) := by
  refine zG_run bkL24_a (lv' := [(0, .ref 100001), (1, .ref 0), (2, .ref 393), (3, .int i)]) (st' := [.int (sg 100001 (i + 2)), .int (sg 100001 (i + 1)), .ref 0]) (h' := zN sg) (Ps := [zInL (zN sg) 100001 (i + 1), zInL (zN sg) 100001 (i + 2)]) rfl (zA (lin (hi 1 (by decide) (by decide))) (zA (lin (hi 2 (by decide) (by decide))) trivial)) ?_
  refine zG_callv (a := 0) (c := 9) (As := [.int (sg 100001 (i + 1)), .int (sg 100001 (i + 2))]) (rest := []) (N2 := 411) bdL24_a okSR_stack lk13_116 (And.intro (by decide) (by decide)) (by decide) rfl rfl rfl (Nat.le_of_ble_eq_true rfl) (Nat.le_of_ble_eq_true rfl) (Nat.le_refl 411) (Nat.le_refl 411) zob_0 (cSR_stack h.1.1.1 h.1.2.1.1.1 h.1.2.1.1.2 h.1.2.1.2.1.1 h.1.2.1.2.1.2 h.2.2.2) ?_
  intro rr h' hP _
  obtain ⟨v, s1, rfl, rfl, hf, hK⟩ := K_stack rr h' hP
  have e : ∀ j, s1 100001 j = sg 100001 j := fun j => hf 100001 j (by decide)
  have hT : R2 sg (zup s1 393 0 0) := law_T h hf
  have hb := SR_b hT.1.1
  obtain ⟨u6, u11⟩ := law_u hT
  refine zG_run bkL24_b (lv' := [(0, .ref 100001), (1, .ref 0), (2, .ref 393), (3, .int i)]) (st' := [.int (s1 100001 (i + 2)), .int (s1 100001 (i + 1)), .ref 393, .int v]) (h' := zN s1) (Ps := [zInL (zN s1) 100001 (i + 1), zInL (zN s1) 100001 (i + 2)]) rfl (zA (lin (law_e e (hi 1 (by decide) (by decide)))) (zA (lin (law_e e (hi 2 (by decide) (by decide)))) trivial)) ?_
  simp only [e]
  refine zG_callv (a := 393) (c := 10) (As := [.int (sg 100001 (i + 1)), .int (sg 100001 (i + 2))]) (rest := [.int v]) (N2 := 411) bdL24_b okMo_stack lk13_119 (And.intro (by decide) (by decide)) (by decide) rfl rfl rfl (Nat.le_of_ble_eq_true rfl) (Nat.le_of_ble_eq_true rfl) (Nat.le_refl 411) (Nat.le_refl 411) zob_393 (tMo_stack (bMo_stack hb.1.1 hb.1.2 hb.2.1.1 hb.2.1.2)) ?_
  intro rr2 h2 hP2 _
  obtain ⟨t2, rfl, rfl, hR, hf2⟩ := hK _ rr2 h2 hT hP2
  refine zb_iceq (tgt := 1527) bkL24_c bdL24_c (by decide) (lv' := [(0, .ref 100001), (1, .ref 0), (2, .ref 393), (3, .int i)]) (st' := []) (h' := zN t2) (x := v) (y := v) (Ps := []) rfl trivial (fun _ => ?_) (fun q => absurd rfl q)
  exact kk t2 (law_R hR hf2) (law_s e hf2)
theorem bkL25_a : zBk mLaw_law 1017 [(1, 1, 1, 0, 0), (1, 0, 1, 0, 0), (1, 3, 0, 0, 0), (0, 0, 0, 0, 1), (4, 0, 0, 0, 0), (7, 0, 0, 0, 0), (1, 0, 1, 0, 0), (1, 3, 0, 0, 0), (0, 0, 0, 0, 2), (4, 0, 0, 0, 0), (7, 0, 0, 0, 0)] = some 1028 := by decide +kernel
theorem bkL25_b : zBk mLaw_law 1031 [(1, 2, 1, 0, 0), (1, 0, 1, 0, 0), (1, 3, 0, 0, 0), (0, 0, 0, 0, 1), (4, 0, 0, 0, 0), (7, 0, 0, 0, 0), (1, 0, 1, 0, 0), (1, 3, 0, 0, 0), (0, 0, 0, 0, 2), (4, 0, 0, 0, 0), (7, 0, 0, 0, 0)] = some 1042 := by decide +kernel
theorem bkL25_c : zBk mLaw_law 1045 [] = some 1045 := by decide +kernel
theorem bdL25_a : decode mLaw_law.2.2.1 1028 = .ok (.invokevirtual 120, 3) := by decide +kernel
theorem bdL25_b : decode mLaw_law.2.2.1 1042 = .ok (.invokevirtual 123, 3) := by decide +kernel
theorem bdL25_c : decode mLaw_law.2.2.1 1045 = .ok (.if_icmp .eq 482, 3) := by decide +kernel
set_option maxHeartbeats 2000000 in
theorem law_tells {sg : zSig} {i : Int32} {Q : Option Value → zHp → Prop} (h : R2 sg sg) (hi : ∀ j, 0 ≤ j → j ≤ 8 → 0 ≤ i + j ∧ i + j < sg 100001 (-1)) (kk : ∀ sg', R2 sg' sg' → (∀ j, sg' 100001 j = sg 100001 j) → zG mLaw_law 411 Q 1527 [(0, .ref 100001), (1, .ref 0), (2, .ref 393), (3, .int i)] [] (zN sg')) : zG mLaw_law 411 Q 1017 [(0, .ref 100001), (1, .ref 0), (2, .ref 393), (3, .int i)] [] (zN sg) := by
  refine zG_run bkL25_a (lv' := [(0, .ref 100001), (1, .ref 0), (2, .ref 393), (3, .int i)]) (st' := [.int (sg 100001 (i + 2)), .int (sg 100001 (i + 1)), .ref 0]) (h' := zN sg) (Ps := [zInL (zN sg) 100001 (i + 1), zInL (zN sg) 100001 (i + 2)]) rfl (zA (lin (hi 1 (by decide) (by decide))) (zA (lin (hi 2 (by decide) (by decide))) trivial)) ?_
  refine zG_callv (a := 0) (c := 9) (As := [.int (sg 100001 (i + 1)), .int (sg 100001 (i + 2))]) (rest := []) (N2 := 411) bdL25_a okSR_tells lk13_120 (And.intro (by decide) (by decide)) (by decide) rfl rfl rfl (Nat.le_of_ble_eq_true rfl) (Nat.le_of_ble_eq_true rfl) (Nat.le_refl 411) (Nat.le_refl 411) zob_0 (cSR_tells h.1.1.1 h.1.2.1.1.1 h.1.2.1.1.2 h.1.2.1.2.1.1 h.1.2.1.2.1.2 h.2.2.2) ?_
  intro rr h' hP _
  obtain ⟨v, s1, rfl, rfl, hf, hK⟩ := K_tells rr h' hP
  have e : ∀ j, s1 100001 j = sg 100001 j := fun j => hf 100001 j (by decide)
  have hT : R2 sg (zup s1 393 0 0) := law_T h hf
  have hb := SR_b hT.1.1
  obtain ⟨u6, u11⟩ := law_u hT
  refine zG_run bkL25_b (lv' := [(0, .ref 100001), (1, .ref 0), (2, .ref 393), (3, .int i)]) (st' := [.int (s1 100001 (i + 2)), .int (s1 100001 (i + 1)), .ref 393, .int v]) (h' := zN s1) (Ps := [zInL (zN s1) 100001 (i + 1), zInL (zN s1) 100001 (i + 2)]) rfl (zA (lin (law_e e (hi 1 (by decide) (by decide)))) (zA (lin (law_e e (hi 2 (by decide) (by decide)))) trivial)) ?_
  simp only [e]
  refine zG_callv (a := 393) (c := 10) (As := [.int (sg 100001 (i + 1)), .int (sg 100001 (i + 2))]) (rest := [.int v]) (N2 := 411) bdL25_b okMo_tells lk13_123 (And.intro (by decide) (by decide)) (by decide) rfl rfl rfl (Nat.le_of_ble_eq_true rfl) (Nat.le_of_ble_eq_true rfl) (Nat.le_refl 411) (Nat.le_refl 411) zob_393 (tMo_tells (bMo_tells hb.1.1 hb.1.2 hb.2.1.1 hb.2.1.2)) ?_
  intro rr2 h2 hP2 _
  obtain ⟨t2, rfl, rfl, hR, hf2⟩ := hK _ rr2 h2 hT hP2
  refine zb_iceq (tgt := 1527) bkL25_c bdL25_c (by decide) (lv' := [(0, .ref 100001), (1, .ref 0), (2, .ref 393), (3, .int i)]) (st' := []) (h' := zN t2) (x := v) (y := v) (Ps := []) rfl trivial (fun _ => ?_) (fun q => absurd rfl q)
  exact kk t2 (law_R hR hf2) (law_s e hf2)
theorem bkL26_a : zBk mLaw_law 1050 [(1, 1, 1, 0, 0), (1, 0, 1, 0, 0), (1, 3, 0, 0, 0), (0, 0, 0, 0, 1), (4, 0, 0, 0, 0), (7, 0, 0, 0, 0), (1, 0, 1, 0, 0), (1, 3, 0, 0, 0), (0, 0, 0, 0, 2), (4, 0, 0, 0, 0), (7, 0, 0, 0, 0)] = some 1061 := by decide +kernel
theorem bkL26_b : zBk mLaw_law 1064 [(1, 2, 1, 0, 0), (1, 0, 1, 0, 0), (1, 3, 0, 0, 0), (0, 0, 0, 0, 1), (4, 0, 0, 0, 0), (7, 0, 0, 0, 0), (1, 0, 1, 0, 0), (1, 3, 0, 0, 0), (0, 0, 0, 0, 2), (4, 0, 0, 0, 0), (7, 0, 0, 0, 0)] = some 1075 := by decide +kernel
theorem bkL26_c : zBk mLaw_law 1078 [] = some 1078 := by decide +kernel
theorem bdL26_a : decode mLaw_law.2.2.1 1061 = .ok (.invokevirtual 124, 3) := by decide +kernel
theorem bdL26_b : decode mLaw_law.2.2.1 1075 = .ok (.invokevirtual 127, 3) := by decide +kernel
theorem bdL26_c : decode mLaw_law.2.2.1 1078 = .ok (.if_icmp .eq 449, 3) := by decide +kernel
set_option maxHeartbeats 2000000 in
theorem law_span {sg : zSig} {i : Int32} {Q : Option Value → zHp → Prop} (h : R2 sg sg) (hi : ∀ j, 0 ≤ j → j ≤ 8 → 0 ≤ i + j ∧ i + j < sg 100001 (-1)) (kk : ∀ sg', R2 sg' sg' → (∀ j, sg' 100001 j = sg 100001 j) → zG mLaw_law 411 Q 1527 [(0, .ref 100001), (1, .ref 0), (2, .ref 393), (3, .int i)] [] (zN sg')) : zG mLaw_law 411 Q 1050 [(0, .ref 100001), (1, .ref 0), (2, .ref 393), (3, .int i)] [] (zN sg) := by
  refine zG_run bkL26_a (lv' := [(0, .ref 100001), (1, .ref 0), (2, .ref 393), (3, .int i)]) (st' := [.int (sg 100001 (i + 2)), .int (sg 100001 (i + 1)), .ref 0]) (h' := zN sg) (Ps := [zInL (zN sg) 100001 (i + 1), zInL (zN sg) 100001 (i + 2)]) rfl (zA (lin (hi 1 (by decide) (by decide))) (zA (lin (hi 2 (by decide) (by decide))) trivial)) ?_
  refine zG_callv (a := 0) (c := 9) (As := [.int (sg 100001 (i + 1)), .int (sg 100001 (i + 2))]) (rest := []) (N2 := 411) bdL26_a okSR_span lk13_124 (And.intro (by decide) (by decide)) (by decide) rfl rfl rfl (Nat.le_of_ble_eq_true rfl) (Nat.le_of_ble_eq_true rfl) (Nat.le_refl 411) (Nat.le_refl 411) zob_0 (cSR_span h.1.1.1 h.1.2.1.1.1 h.1.2.1.1.2 h.1.2.1.2.1.1 h.1.2.1.2.1.2 h.2.2.2) ?_
  intro rr h' hP _
  obtain ⟨v, s1, rfl, rfl, hf, hK⟩ := K_span rr h' hP
  have e : ∀ j, s1 100001 j = sg 100001 j := fun j => hf 100001 j (by decide)
  have hT : R2 sg (zup s1 393 0 0) := law_T h hf
  have hb := SR_b hT.1.1
  obtain ⟨u6, u11⟩ := law_u hT
  refine zG_run bkL26_b (lv' := [(0, .ref 100001), (1, .ref 0), (2, .ref 393), (3, .int i)]) (st' := [.int (s1 100001 (i + 2)), .int (s1 100001 (i + 1)), .ref 393, .int v]) (h' := zN s1) (Ps := [zInL (zN s1) 100001 (i + 1), zInL (zN s1) 100001 (i + 2)]) rfl (zA (lin (law_e e (hi 1 (by decide) (by decide)))) (zA (lin (law_e e (hi 2 (by decide) (by decide)))) trivial)) ?_
  simp only [e]
  refine zG_callv (a := 393) (c := 10) (As := [.int (sg 100001 (i + 1)), .int (sg 100001 (i + 2))]) (rest := [.int v]) (N2 := 411) bdL26_b okMo_span lk13_127 (And.intro (by decide) (by decide)) (by decide) rfl rfl rfl (Nat.le_of_ble_eq_true rfl) (Nat.le_of_ble_eq_true rfl) (Nat.le_refl 411) (Nat.le_refl 411) zob_393 (tMo_span (bMo_span hb.1.1 hb.1.2 hb.2.1.1 hb.2.1.2 (SR_P hT.1.1))) ?_
  intro rr2 h2 hP2 _
  obtain ⟨t2, rfl, rfl, hR, hf2⟩ := hK _ rr2 h2 hT hP2
  refine zb_iceq (tgt := 1527) bkL26_c bdL26_c (by decide) (lv' := [(0, .ref 100001), (1, .ref 0), (2, .ref 393), (3, .int i)]) (st' := []) (h' := zN t2) (x := v) (y := v) (Ps := []) rfl trivial (fun _ => ?_) (fun q => absurd rfl q)
  exact kk t2 (law_R hR hf2) (law_s e hf2)
theorem bkL27_a : zBk mLaw_law 1083 [(1, 1, 1, 0, 0), (1, 0, 1, 0, 0), (1, 3, 0, 0, 0), (0, 0, 0, 0, 1), (4, 0, 0, 0, 0), (7, 0, 0, 0, 0), (1, 0, 1, 0, 0), (1, 3, 0, 0, 0), (0, 0, 0, 0, 2), (4, 0, 0, 0, 0), (7, 0, 0, 0, 0)] = some 1094 := by decide +kernel
theorem bkL27_b : zBk mLaw_law 1097 [(1, 2, 1, 0, 0), (1, 0, 1, 0, 0), (1, 3, 0, 0, 0), (0, 0, 0, 0, 1), (4, 0, 0, 0, 0), (7, 0, 0, 0, 0), (1, 0, 1, 0, 0), (1, 3, 0, 0, 0), (0, 0, 0, 0, 2), (4, 0, 0, 0, 0), (7, 0, 0, 0, 0)] = some 1108 := by decide +kernel
theorem bkL27_c : zBk mLaw_law 1111 [] = some 1111 := by decide +kernel
theorem bdL27_a : decode mLaw_law.2.2.1 1094 = .ok (.invokevirtual 128, 3) := by decide +kernel
theorem bdL27_b : decode mLaw_law.2.2.1 1108 = .ok (.invokevirtual 131, 3) := by decide +kernel
theorem bdL27_c : decode mLaw_law.2.2.1 1111 = .ok (.if_icmp .eq 416, 3) := by decide +kernel
set_option maxHeartbeats 2000000 in
theorem law_anchor {sg : zSig} {i : Int32} {Q : Option Value → zHp → Prop} (h : R2 sg sg) (hi : ∀ j, 0 ≤ j → j ≤ 8 → 0 ≤ i + j ∧ i + j < sg 100001 (-1)) (kk : ∀ sg', R2 sg' sg' → (∀ j, sg' 100001 j = sg 100001 j) → zG mLaw_law 411 Q 1527 [(0, .ref 100001), (1, .ref 0), (2, .ref 393), (3, .int i)] [] (zN sg')) : zG mLaw_law 411 Q 1083 [(0, .ref 100001), (1, .ref 0), (2, .ref 393), (3, .int i)] [] (zN sg) := by
  refine zG_run bkL27_a (lv' := [(0, .ref 100001), (1, .ref 0), (2, .ref 393), (3, .int i)]) (st' := [.int (sg 100001 (i + 2)), .int (sg 100001 (i + 1)), .ref 0]) (h' := zN sg) (Ps := [zInL (zN sg) 100001 (i + 1), zInL (zN sg) 100001 (i + 2)]) rfl (zA (lin (hi 1 (by decide) (by decide))) (zA (lin (hi 2 (by decide) (by decide))) trivial)) ?_
  refine zG_callv (a := 0) (c := 9) (As := [.int (sg 100001 (i + 1)), .int (sg 100001 (i + 2))]) (rest := []) (N2 := 411) bdL27_a okSR_anchor lk13_128 (And.intro (by decide) (by decide)) (by decide) rfl rfl rfl (Nat.le_of_ble_eq_true rfl) (Nat.le_of_ble_eq_true rfl) (Nat.le_refl 411) (Nat.le_refl 411) zob_0 (cSR_anchor h.1.1.1.2.2.1.2) ?_
  intro rr h' hP _
  obtain ⟨v, s1, rfl, rfl, hf, hK⟩ := K_anchor rr h' hP
  have e : ∀ j, s1 100001 j = sg 100001 j := fun j => hf 100001 j (by decide)
  have hT : R2 sg (zup s1 393 0 0) := law_T h hf
  have hb := SR_b hT.1.1
  obtain ⟨u6, u11⟩ := law_u hT
  refine zG_run bkL27_b (lv' := [(0, .ref 100001), (1, .ref 0), (2, .ref 393), (3, .int i)]) (st' := [.int (s1 100001 (i + 2)), .int (s1 100001 (i + 1)), .ref 393, .int v]) (h' := zN s1) (Ps := [zInL (zN s1) 100001 (i + 1), zInL (zN s1) 100001 (i + 2)]) rfl (zA (lin (law_e e (hi 1 (by decide) (by decide)))) (zA (lin (law_e e (hi 2 (by decide) (by decide)))) trivial)) ?_
  simp only [e]
  refine zG_callv (a := 393) (c := 10) (As := [.int (sg 100001 (i + 1)), .int (sg 100001 (i + 2))]) (rest := [.int v]) (N2 := 411) bdL27_b okMo_anchor lk13_131 (And.intro (by decide) (by decide)) (by decide) rfl rfl rfl (Nat.le_of_ble_eq_true rfl) (Nat.le_of_ble_eq_true rfl) (Nat.le_refl 411) (Nat.le_refl 411) zob_393 (tMo_anchor (bMo_anchor hb.2.2.2)) ?_
  intro rr2 h2 hP2 _
  obtain ⟨t2, rfl, rfl, hR, hf2⟩ := hK _ rr2 h2 hT hP2
  refine zb_iceq (tgt := 1527) bkL27_c bdL27_c (by decide) (lv' := [(0, .ref 100001), (1, .ref 0), (2, .ref 393), (3, .int i)]) (st' := []) (h' := zN t2) (x := v) (y := v) (Ps := []) rfl trivial (fun _ => ?_) (fun q => absurd rfl q)
  exact kk t2 (law_R hR hf2) (law_s e hf2)
theorem bkL28_a : zBk mLaw_law 1116 [(1, 1, 1, 0, 0), (1, 0, 1, 0, 0), (1, 3, 0, 0, 0), (0, 0, 0, 0, 1), (4, 0, 0, 0, 0), (7, 0, 0, 0, 0)] = some 1122 := by decide +kernel
theorem bkL28_b : zBk mLaw_law 1125 [(1, 2, 1, 0, 0), (1, 0, 1, 0, 0), (1, 3, 0, 0, 0), (0, 0, 0, 0, 1), (4, 0, 0, 0, 0), (7, 0, 0, 0, 0)] = some 1131 := by decide +kernel
theorem bkL28_c : zBk mLaw_law 1134 [] = some 1134 := by decide +kernel
theorem bdL28_a : decode mLaw_law.2.2.1 1122 = .ok (.invokevirtual 132, 3) := by decide +kernel
theorem bdL28_b : decode mLaw_law.2.2.1 1131 = .ok (.invokevirtual 135, 3) := by decide +kernel
theorem bdL28_c : decode mLaw_law.2.2.1 1134 = .ok (.if_icmp .eq 393, 3) := by decide +kernel
set_option maxHeartbeats 2000000 in
theorem law_find {sg : zSig} {i : Int32} {Q : Option Value → zHp → Prop} (h : R2 sg sg) (hi : ∀ j, 0 ≤ j → j ≤ 8 → 0 ≤ i + j ∧ i + j < sg 100001 (-1)) (kk : ∀ sg', R2 sg' sg' → (∀ j, sg' 100001 j = sg 100001 j) → zG mLaw_law 411 Q 1527 [(0, .ref 100001), (1, .ref 0), (2, .ref 393), (3, .int i)] [] (zN sg')) : zG mLaw_law 411 Q 1116 [(0, .ref 100001), (1, .ref 0), (2, .ref 393), (3, .int i)] [] (zN sg) := by
  refine zG_run bkL28_a (lv' := [(0, .ref 100001), (1, .ref 0), (2, .ref 393), (3, .int i)]) (st' := [.int (sg 100001 (i + 1)), .ref 0]) (h' := zN sg) (Ps := [zInL (zN sg) 100001 (i + 1)]) rfl (zA (lin (hi 1 (by decide) (by decide))) trivial) ?_
  refine zG_callv (a := 0) (c := 9) (As := [.int (sg 100001 (i + 1))]) (rest := []) (N2 := 411) bdL28_a okSR_find lk13_132 (And.intro (by decide) (by decide)) (by decide) rfl rfl rfl (Nat.le_of_ble_eq_true rfl) (Nat.le_of_ble_eq_true rfl) (Nat.le_refl 411) (Nat.le_refl 411) zob_0 (cSR_find2 h.1.1.1 h.1.2.1.1.1 h.1.2.1.1.2 h.1.2.1.2.1.1 h.1.2.1.2.1.2 h.2.2.2 h.2.1.1.1 h.2.1.1.2) ?_
  intro rr h' hP _
  obtain ⟨v, s1, rfl, rfl, hf, hK⟩ := K_find rr h' hP
  have e : ∀ j, s1 100001 j = sg 100001 j := fun j => hf 100001 j (by decide)
  have hT : R2 sg (zup s1 393 0 0) := law_T h hf
  have hb := SR_b hT.1.1
  obtain ⟨u6, u11⟩ := law_u hT
  refine zG_run bkL28_b (lv' := [(0, .ref 100001), (1, .ref 0), (2, .ref 393), (3, .int i)]) (st' := [.int (s1 100001 (i + 1)), .ref 393, .int v]) (h' := zN s1) (Ps := [zInL (zN s1) 100001 (i + 1)]) rfl (zA (lin (law_e e (hi 1 (by decide) (by decide)))) trivial) ?_
  simp only [e]
  refine zG_callv (a := 393) (c := 10) (As := [.int (sg 100001 (i + 1))]) (rest := [.int v]) (N2 := 411) bdL28_b okMo_find lk13_135 (And.intro (by decide) (by decide)) (by decide) rfl rfl rfl (Nat.le_of_ble_eq_true rfl) (Nat.le_of_ble_eq_true rfl) (Nat.le_refl 411) (Nat.le_refl 411) zob_393 (tMo_find (bMo_find hb.1.1 hb.1.2 hb.2.1.1 hb.2.1.2 u11.1 u11.2)) ?_
  intro rr2 h2 hP2 _
  obtain ⟨t2, rfl, rfl, hR, hf2⟩ := hK _ rr2 h2 hT hP2
  refine zb_iceq (tgt := 1527) bkL28_c bdL28_c (by decide) (lv' := [(0, .ref 100001), (1, .ref 0), (2, .ref 393), (3, .int i)]) (st' := []) (h' := zN t2) (x := v) (y := v) (Ps := []) rfl trivial (fun _ => ?_) (fun q => absurd rfl q)
  exact kk t2 (law_R hR hf2) (law_s e hf2)
theorem bkL29_a : zBk mLaw_law 1139 [(1, 1, 1, 0, 0), (1, 0, 1, 0, 0), (1, 3, 0, 0, 0), (0, 0, 0, 0, 1), (4, 0, 0, 0, 0), (7, 0, 0, 0, 0), (1, 0, 1, 0, 0), (1, 3, 0, 0, 0), (0, 0, 0, 0, 2), (4, 0, 0, 0, 0), (7, 0, 0, 0, 0), (1, 0, 1, 0, 0), (1, 3, 0, 0, 0), (0, 0, 0, 0, 3), (4, 0, 0, 0, 0), (7, 0, 0, 0, 0), (1, 0, 1, 0, 0), (1, 3, 0, 0, 0), (0, 0, 0, 0, 4), (4, 0, 0, 0, 0), (7, 0, 0, 0, 0), (1, 0, 1, 0, 0), (1, 3, 0, 0, 0), (0, 0, 0, 0, 5), (4, 0, 0, 0, 0), (7, 0, 0, 0, 0), (1, 0, 1, 0, 0), (1, 3, 0, 0, 0), (0, 0, 0, 0, 6), (4, 0, 0, 0, 0), (7, 0, 0, 0, 0)] = some 1171 := by decide +kernel
theorem bkL29_b : zBk mLaw_law 1174 [(1, 2, 1, 0, 0), (1, 0, 1, 0, 0), (1, 3, 0, 0, 0), (0, 0, 0, 0, 1), (4, 0, 0, 0, 0), (7, 0, 0, 0, 0), (1, 0, 1, 0, 0), (1, 3, 0, 0, 0), (0, 0, 0, 0, 2), (4, 0, 0, 0, 0), (7, 0, 0, 0, 0), (1, 0, 1, 0, 0), (1, 3, 0, 0, 0), (0, 0, 0, 0, 3), (4, 0, 0, 0, 0), (7, 0, 0, 0, 0), (1, 0, 1, 0, 0), (1, 3, 0, 0, 0), (0, 0, 0, 0, 4), (4, 0, 0, 0, 0), (7, 0, 0, 0, 0), (1, 0, 1, 0, 0), (1, 3, 0, 0, 0), (0, 0, 0, 0, 5), (4, 0, 0, 0, 0), (7, 0, 0, 0, 0), (1, 0, 1, 0, 0), (1, 3, 0, 0, 0), (0, 0, 0, 0, 6), (4, 0, 0, 0, 0), (7, 0, 0, 0, 0)] = some 1206 := by decide +kernel
theorem bkL29_c : zBk mLaw_law 1209 [] = some 1209 := by decide +kernel
theorem bdL29_a : decode mLaw_law.2.2.1 1171 = .ok (.invokevirtual 136, 3) := by decide +kernel
theorem bdL29_b : decode mLaw_law.2.2.1 1206 = .ok (.invokevirtual 139, 3) := by decide +kernel
theorem bdL29_c : decode mLaw_law.2.2.1 1209 = .ok (.if_icmp .eq 318, 3) := by decide +kernel
set_option maxHeartbeats 2000000 in
theorem law_findBy {sg : zSig} {i : Int32} {Q : Option Value → zHp → Prop} (h : R2 sg sg) (hi : ∀ j, 0 ≤ j → j ≤ 8 → 0 ≤ i + j ∧ i + j < sg 100001 (-1)) (kk : ∀ sg', R2 sg' sg' → (∀ j, sg' 100001 j = sg 100001 j) → zG mLaw_law 411 Q 1527 [(0, .ref 100001), (1, .ref 0), (2, .ref 393), (3, .int i)] [] (zN sg')) : zG mLaw_law 411 Q 1139 [(0, .ref 100001), (1, .ref 0), (2, .ref 393), (3, .int i)] [] (zN sg) := by
  refine zG_run bkL29_a (lv' := [(0, .ref 100001), (1, .ref 0), (2, .ref 393), (3, .int i)]) (st' := [.int (sg 100001 (i + 6)), .int (sg 100001 (i + 5)), .int (sg 100001 (i + 4)), .int (sg 100001 (i + 3)), .int (sg 100001 (i + 2)), .int (sg 100001 (i + 1)), .ref 0]) (h' := zN sg) (Ps := [zInL (zN sg) 100001 (i + 1), zInL (zN sg) 100001 (i + 2), zInL (zN sg) 100001 (i + 3), zInL (zN sg) 100001 (i + 4), zInL (zN sg) 100001 (i + 5), zInL (zN sg) 100001 (i + 6)]) rfl (zA (lin (hi 1 (by decide) (by decide))) (zA (lin (hi 2 (by decide) (by decide))) (zA (lin (hi 3 (by decide) (by decide))) (zA (lin (hi 4 (by decide) (by decide))) (zA (lin (hi 5 (by decide) (by decide))) (zA (lin (hi 6 (by decide) (by decide))) trivial)))))) ?_
  refine zG_callv (a := 0) (c := 9) (As := [.int (sg 100001 (i + 1)), .int (sg 100001 (i + 2)), .int (sg 100001 (i + 3)), .int (sg 100001 (i + 4)), .int (sg 100001 (i + 5)), .int (sg 100001 (i + 6))]) (rest := []) (N2 := 411) bdL29_a okSR_findBy lk13_136 (And.intro (by decide) (by decide)) (by decide) rfl rfl rfl (Nat.le_of_ble_eq_true rfl) (Nat.le_of_ble_eq_true rfl) (Nat.le_refl 411) (Nat.le_refl 411) zob_0 (cSR_findBy2 h.1.1.1 h.1.2.1.1.1 h.1.2.1.1.2 h.1.2.1.2.1.1 h.1.2.1.2.1.2 h.2.2.2 h.2.1.1.1 h.2.1.1.2) ?_
  intro rr h' hP _
  obtain ⟨v, s1, rfl, rfl, hf, hK⟩ := K_findBy rr h' hP
  have e : ∀ j, s1 100001 j = sg 100001 j := fun j => hf 100001 j (by decide)
  have hT : R2 sg (zup s1 393 0 0) := law_T h hf
  have hb := SR_b hT.1.1
  obtain ⟨u6, u11⟩ := law_u hT
  refine zG_run bkL29_b (lv' := [(0, .ref 100001), (1, .ref 0), (2, .ref 393), (3, .int i)]) (st' := [.int (s1 100001 (i + 6)), .int (s1 100001 (i + 5)), .int (s1 100001 (i + 4)), .int (s1 100001 (i + 3)), .int (s1 100001 (i + 2)), .int (s1 100001 (i + 1)), .ref 393, .int v]) (h' := zN s1) (Ps := [zInL (zN s1) 100001 (i + 1), zInL (zN s1) 100001 (i + 2), zInL (zN s1) 100001 (i + 3), zInL (zN s1) 100001 (i + 4), zInL (zN s1) 100001 (i + 5), zInL (zN s1) 100001 (i + 6)]) rfl (zA (lin (law_e e (hi 1 (by decide) (by decide)))) (zA (lin (law_e e (hi 2 (by decide) (by decide)))) (zA (lin (law_e e (hi 3 (by decide) (by decide)))) (zA (lin (law_e e (hi 4 (by decide) (by decide)))) (zA (lin (law_e e (hi 5 (by decide) (by decide)))) (zA (lin (law_e e (hi 6 (by decide) (by decide)))) trivial)))))) ?_
  simp only [e]
  refine zG_callv (a := 393) (c := 10) (As := [.int (sg 100001 (i + 1)), .int (sg 100001 (i + 2)), .int (sg 100001 (i + 3)), .int (sg 100001 (i + 4)), .int (sg 100001 (i + 5)), .int (sg 100001 (i + 6))]) (rest := [.int v]) (N2 := 411) bdL29_b okMo_findBy lk13_139 (And.intro (by decide) (by decide)) (by decide) rfl rfl rfl (Nat.le_of_ble_eq_true rfl) (Nat.le_of_ble_eq_true rfl) (Nat.le_refl 411) (Nat.le_refl 411) zob_393 (tMo_findBy (bMo_findBy hb.1.1 hb.1.2 hb.2.1.1 hb.2.1.2 (SR_P hT.1.1) u11.1 u11.2)) ?_
  intro rr2 h2 hP2 _
  obtain ⟨t2, rfl, rfl, hR, hf2⟩ := hK _ rr2 h2 hT hP2
  refine zb_iceq (tgt := 1527) bkL29_c bdL29_c (by decide) (lv' := [(0, .ref 100001), (1, .ref 0), (2, .ref 393), (3, .int i)]) (st' := []) (h' := zN t2) (x := v) (y := v) (Ps := []) rfl trivial (fun _ => ?_) (fun q => absurd rfl q)
  exact kk t2 (law_R hR hf2) (law_s e hf2)
theorem bkL30_a : zBk mLaw_law 1214 [(1, 1, 1, 0, 0), (1, 0, 1, 0, 0), (1, 3, 0, 0, 0), (0, 0, 0, 0, 1), (4, 0, 0, 0, 0), (7, 0, 0, 0, 0), (1, 0, 1, 0, 0), (1, 3, 0, 0, 0), (0, 0, 0, 0, 2), (4, 0, 0, 0, 0), (7, 0, 0, 0, 0), (1, 0, 1, 0, 0), (1, 3, 0, 0, 0), (0, 0, 0, 0, 3), (4, 0, 0, 0, 0), (7, 0, 0, 0, 0), (1, 0, 1, 0, 0), (1, 3, 0, 0, 0), (0, 0, 0, 0, 4), (4, 0, 0, 0, 0), (7, 0, 0, 0, 0), (1, 0, 1, 0, 0), (1, 3, 0, 0, 0), (0, 0, 0, 0, 5), (4, 0, 0, 0, 0), (7, 0, 0, 0, 0)] = some 1240 := by decide +kernel
theorem bkL30_b : zBk mLaw_law 1243 [(1, 2, 1, 0, 0), (1, 0, 1, 0, 0), (1, 3, 0, 0, 0), (0, 0, 0, 0, 1), (4, 0, 0, 0, 0), (7, 0, 0, 0, 0), (1, 0, 1, 0, 0), (1, 3, 0, 0, 0), (0, 0, 0, 0, 2), (4, 0, 0, 0, 0), (7, 0, 0, 0, 0), (1, 0, 1, 0, 0), (1, 3, 0, 0, 0), (0, 0, 0, 0, 3), (4, 0, 0, 0, 0), (7, 0, 0, 0, 0), (1, 0, 1, 0, 0), (1, 3, 0, 0, 0), (0, 0, 0, 0, 4), (4, 0, 0, 0, 0), (7, 0, 0, 0, 0), (1, 0, 1, 0, 0), (1, 3, 0, 0, 0), (0, 0, 0, 0, 5), (4, 0, 0, 0, 0), (7, 0, 0, 0, 0)] = some 1269 := by decide +kernel
theorem bkL30_c : zBk mLaw_law 1272 [] = some 1272 := by decide +kernel
theorem bdL30_a : decode mLaw_law.2.2.1 1240 = .ok (.invokevirtual 140, 3) := by decide +kernel
theorem bdL30_b : decode mLaw_law.2.2.1 1269 = .ok (.invokevirtual 143, 3) := by decide +kernel
theorem bdL30_c : decode mLaw_law.2.2.1 1272 = .ok (.if_icmp .eq 255, 3) := by decide +kernel
set_option maxHeartbeats 2000000 in
theorem law_styled {sg : zSig} {i : Int32} {Q : Option Value → zHp → Prop} (h : R2 sg sg) (hi : ∀ j, 0 ≤ j → j ≤ 8 → 0 ≤ i + j ∧ i + j < sg 100001 (-1)) (kk : ∀ sg', R2 sg' sg' → (∀ j, sg' 100001 j = sg 100001 j) → zG mLaw_law 411 Q 1527 [(0, .ref 100001), (1, .ref 0), (2, .ref 393), (3, .int i)] [] (zN sg')) : zG mLaw_law 411 Q 1214 [(0, .ref 100001), (1, .ref 0), (2, .ref 393), (3, .int i)] [] (zN sg) := by
  refine zG_run bkL30_a (lv' := [(0, .ref 100001), (1, .ref 0), (2, .ref 393), (3, .int i)]) (st' := [.int (sg 100001 (i + 5)), .int (sg 100001 (i + 4)), .int (sg 100001 (i + 3)), .int (sg 100001 (i + 2)), .int (sg 100001 (i + 1)), .ref 0]) (h' := zN sg) (Ps := [zInL (zN sg) 100001 (i + 1), zInL (zN sg) 100001 (i + 2), zInL (zN sg) 100001 (i + 3), zInL (zN sg) 100001 (i + 4), zInL (zN sg) 100001 (i + 5)]) rfl (zA (lin (hi 1 (by decide) (by decide))) (zA (lin (hi 2 (by decide) (by decide))) (zA (lin (hi 3 (by decide) (by decide))) (zA (lin (hi 4 (by decide) (by decide))) (zA (lin (hi 5 (by decide) (by decide))) trivial))))) ?_
  refine zG_callv (a := 0) (c := 9) (As := [.int (sg 100001 (i + 1)), .int (sg 100001 (i + 2)), .int (sg 100001 (i + 3)), .int (sg 100001 (i + 4)), .int (sg 100001 (i + 5))]) (rest := []) (N2 := 411) bdL30_a okSR_styled lk13_140 (And.intro (by decide) (by decide)) (by decide) rfl rfl rfl (Nat.le_of_ble_eq_true rfl) (Nat.le_of_ble_eq_true rfl) (Nat.le_refl 411) (Nat.le_refl 411) zob_0 (cSR_styled2 h.1.1.1 h.1.2.1.1.1 h.1.2.1.1.2 h.1.2.1.2.1.1 h.1.2.1.2.1.2 h.2.2.2) ?_
  intro rr h' hP _
  obtain ⟨v, s1, rfl, rfl, hf, hK⟩ := K_styled rr h' hP
  have e : ∀ j, s1 100001 j = sg 100001 j := fun j => hf 100001 j (by decide)
  have hT : R2 sg (zup s1 393 0 0) := law_T h hf
  have hb := SR_b hT.1.1
  obtain ⟨u6, u11⟩ := law_u hT
  refine zG_run bkL30_b (lv' := [(0, .ref 100001), (1, .ref 0), (2, .ref 393), (3, .int i)]) (st' := [.int (s1 100001 (i + 5)), .int (s1 100001 (i + 4)), .int (s1 100001 (i + 3)), .int (s1 100001 (i + 2)), .int (s1 100001 (i + 1)), .ref 393, .int v]) (h' := zN s1) (Ps := [zInL (zN s1) 100001 (i + 1), zInL (zN s1) 100001 (i + 2), zInL (zN s1) 100001 (i + 3), zInL (zN s1) 100001 (i + 4), zInL (zN s1) 100001 (i + 5)]) rfl (zA (lin (law_e e (hi 1 (by decide) (by decide)))) (zA (lin (law_e e (hi 2 (by decide) (by decide)))) (zA (lin (law_e e (hi 3 (by decide) (by decide)))) (zA (lin (law_e e (hi 4 (by decide) (by decide)))) (zA (lin (law_e e (hi 5 (by decide) (by decide)))) trivial))))) ?_
  simp only [e]
  refine zG_callv (a := 393) (c := 10) (As := [.int (sg 100001 (i + 1)), .int (sg 100001 (i + 2)), .int (sg 100001 (i + 3)), .int (sg 100001 (i + 4)), .int (sg 100001 (i + 5))]) (rest := [.int v]) (N2 := 411) bdL30_b okMo_styled lk13_143 (And.intro (by decide) (by decide)) (by decide) rfl rfl rfl (Nat.le_of_ble_eq_true rfl) (Nat.le_of_ble_eq_true rfl) (Nat.le_refl 411) (Nat.le_refl 411) zob_393 (tMo_styled (bMo_styled2 hb.1.1 hb.1.2 hb.2.1.1 hb.2.1.2 (SR_P hT.1.1))) ?_
  intro rr2 h2 hP2 _
  obtain ⟨t2, rfl, rfl, hR, hf2⟩ := hK _ rr2 h2 hT hP2
  refine zb_iceq (tgt := 1527) bkL30_c bdL30_c (by decide) (lv' := [(0, .ref 100001), (1, .ref 0), (2, .ref 393), (3, .int i)]) (st' := []) (h' := zN t2) (x := v) (y := v) (Ps := []) rfl trivial (fun _ => ?_) (fun q => absurd rfl q)
  exact kk t2 (law_R hR hf2) (law_s e hf2)
theorem bkL32_a : zBk mLaw_law 1356 [(1, 1, 1, 0, 0), (1, 0, 1, 0, 0), (1, 3, 0, 0, 0), (0, 0, 0, 0, 1), (4, 0, 0, 0, 0), (7, 0, 0, 0, 0), (1, 0, 1, 0, 0), (1, 3, 0, 0, 0), (0, 0, 0, 0, 2), (4, 0, 0, 0, 0), (7, 0, 0, 0, 0), (1, 0, 1, 0, 0), (1, 3, 0, 0, 0), (0, 0, 0, 0, 3), (4, 0, 0, 0, 0), (7, 0, 0, 0, 0)] = some 1372 := by decide +kernel
theorem bkL32_b : zBk mLaw_law 1375 [(1, 2, 1, 0, 0), (1, 0, 1, 0, 0), (1, 3, 0, 0, 0), (0, 0, 0, 0, 1), (4, 0, 0, 0, 0), (7, 0, 0, 0, 0), (1, 0, 1, 0, 0), (1, 3, 0, 0, 0), (0, 0, 0, 0, 2), (4, 0, 0, 0, 0), (7, 0, 0, 0, 0), (1, 0, 1, 0, 0), (1, 3, 0, 0, 0), (0, 0, 0, 0, 3), (4, 0, 0, 0, 0), (7, 0, 0, 0, 0)] = some 1391 := by decide +kernel
theorem bkL32_c : zBk mLaw_law 1394 [] = some 1394 := by decide +kernel
theorem bdL32_a : decode mLaw_law.2.2.1 1372 = .ok (.invokevirtual 149, 3) := by decide +kernel
theorem bdL32_b : decode mLaw_law.2.2.1 1391 = .ok (.invokevirtual 152, 3) := by decide +kernel
theorem bdL32_c : decode mLaw_law.2.2.1 1394 = .ok (.if_icmp .eq 133, 3) := by decide +kernel
set_option maxHeartbeats 2000000 in
theorem law_through {sg : zSig} {i : Int32} {Q : Option Value → zHp → Prop} (h : R2 sg sg) (hi : ∀ j, 0 ≤ j → j ≤ 8 → 0 ≤ i + j ∧ i + j < sg 100001 (-1)) (kk : ∀ sg', R2 sg' sg' → (∀ j, sg' 100001 j = sg 100001 j) → zG mLaw_law 411 Q 1527 [(0, .ref 100001), (1, .ref 0), (2, .ref 393), (3, .int i)] [] (zN sg')) : zG mLaw_law 411 Q 1356 [(0, .ref 100001), (1, .ref 0), (2, .ref 393), (3, .int i)] [] (zN sg) := by
  refine zG_run bkL32_a (lv' := [(0, .ref 100001), (1, .ref 0), (2, .ref 393), (3, .int i)]) (st' := [.int (sg 100001 (i + 3)), .int (sg 100001 (i + 2)), .int (sg 100001 (i + 1)), .ref 0]) (h' := zN sg) (Ps := [zInL (zN sg) 100001 (i + 1), zInL (zN sg) 100001 (i + 2), zInL (zN sg) 100001 (i + 3)]) rfl (zA (lin (hi 1 (by decide) (by decide))) (zA (lin (hi 2 (by decide) (by decide))) (zA (lin (hi 3 (by decide) (by decide))) trivial))) ?_
  refine zG_callv (a := 0) (c := 9) (As := [.int (sg 100001 (i + 1)), .int (sg 100001 (i + 2)), .int (sg 100001 (i + 3))]) (rest := []) (N2 := 411) bdL32_a okSR_through lk13_149 (And.intro (by decide) (by decide)) (by decide) rfl rfl rfl (Nat.le_of_ble_eq_true rfl) (Nat.le_of_ble_eq_true rfl) (Nat.le_refl 411) (Nat.le_refl 411) zob_0 (cSR_through h.1.1.1 h.1.2.1.1.1 h.1.2.1.1.2 h.1.2.1.2.1.1 h.1.2.1.2.1.2) ?_
  intro rr h' hP _
  obtain ⟨v, s1, rfl, rfl, hf, hK⟩ := K_through rr h' hP
  have e : ∀ j, s1 100001 j = sg 100001 j := fun j => hf 100001 j (by decide)
  have hT : R2 sg (zup s1 393 0 0) := law_T h hf
  have hb := SR_b hT.1.1
  obtain ⟨u6, u11⟩ := law_u hT
  refine zG_run bkL32_b (lv' := [(0, .ref 100001), (1, .ref 0), (2, .ref 393), (3, .int i)]) (st' := [.int (s1 100001 (i + 3)), .int (s1 100001 (i + 2)), .int (s1 100001 (i + 1)), .ref 393, .int v]) (h' := zN s1) (Ps := [zInL (zN s1) 100001 (i + 1), zInL (zN s1) 100001 (i + 2), zInL (zN s1) 100001 (i + 3)]) rfl (zA (lin (law_e e (hi 1 (by decide) (by decide)))) (zA (lin (law_e e (hi 2 (by decide) (by decide)))) (zA (lin (law_e e (hi 3 (by decide) (by decide)))) trivial))) ?_
  simp only [e]
  refine zG_callv (a := 393) (c := 10) (As := [.int (sg 100001 (i + 1)), .int (sg 100001 (i + 2)), .int (sg 100001 (i + 3))]) (rest := [.int v]) (N2 := 411) bdL32_b okMo_through lk13_152 (And.intro (by decide) (by decide)) (by decide) rfl rfl rfl (Nat.le_of_ble_eq_true rfl) (Nat.le_of_ble_eq_true rfl) (Nat.le_refl 411) (Nat.le_refl 411) zob_393 (tMo_through (bMo_through u6.1 u6.2)) ?_
  intro rr2 h2 hP2 _
  obtain ⟨t2, rfl, rfl, hR, hf2⟩ := hK _ rr2 h2 hT hP2
  refine zb_iceq (tgt := 1527) bkL32_c bdL32_c (by decide) (lv' := [(0, .ref 100001), (1, .ref 0), (2, .ref 393), (3, .int i)]) (st' := []) (h' := zN t2) (x := v) (y := v) (Ps := []) rfl trivial (fun _ => ?_) (fun q => absurd rfl q)
  exact kk t2 (law_R hR hf2) (law_s e hf2)
theorem bkL33_a : zBk mLaw_law 1399 [(1, 1, 1, 0, 0)] = some 1400 := by decide +kernel
theorem bkL33_b : zBk mLaw_law 1403 [(1, 2, 1, 0, 0)] = some 1404 := by decide +kernel
theorem bkL33_c : zBk mLaw_law 1407 [] = some 1407 := by decide +kernel
theorem bdL33_a : decode mLaw_law.2.2.1 1400 = .ok (.invokevirtual 153, 3) := by decide +kernel
theorem bdL33_b : decode mLaw_law.2.2.1 1404 = .ok (.invokevirtual 156, 3) := by decide +kernel
theorem bdL33_c : decode mLaw_law.2.2.1 1407 = .ok (.if_icmp .eq 120, 3) := by decide +kernel
set_option maxHeartbeats 2000000 in
theorem law_idle {sg : zSig} {i : Int32} {Q : Option Value → zHp → Prop} (h : R2 sg sg) (hi : ∀ j, 0 ≤ j → j ≤ 8 → 0 ≤ i + j ∧ i + j < sg 100001 (-1)) (kk : ∀ sg', R2 sg' sg' → (∀ j, sg' 100001 j = sg 100001 j) → zG mLaw_law 411 Q 1527 [(0, .ref 100001), (1, .ref 0), (2, .ref 393), (3, .int i)] [] (zN sg')) : zG mLaw_law 411 Q 1399 [(0, .ref 100001), (1, .ref 0), (2, .ref 393), (3, .int i)] [] (zN sg) := by
  refine zG_run bkL33_a (lv' := [(0, .ref 100001), (1, .ref 0), (2, .ref 393), (3, .int i)]) (st' := [.ref 0]) (h' := zN sg) (Ps := []) rfl trivial ?_
  refine zG_callv (a := 0) (c := 9) (As := []) (rest := []) (N2 := 411) bdL33_a okSR_idle lk13_153 (And.intro (by decide) (by decide)) (by decide) rfl rfl rfl (Nat.le_of_ble_eq_true rfl) (Nat.le_of_ble_eq_true rfl) (Nat.le_refl 411) (Nat.le_refl 411) zob_0 (cSR_idle h.1.1.1 h.1.2.1.1.1 h.1.2.1.1.2 h.1.2.1.2.1.1 h.1.2.1.2.1.2 h.2.2.2) ?_
  intro rr h' hP _
  obtain ⟨v, s1, rfl, rfl, hf, hK⟩ := K_idle rr h' hP
  have e : ∀ j, s1 100001 j = sg 100001 j := fun j => hf 100001 j (by decide)
  have hT : R2 sg (zup s1 393 0 0) := law_T h hf
  have hb := SR_b hT.1.1
  obtain ⟨u6, u11⟩ := law_u hT
  refine zG_run bkL33_b (lv' := [(0, .ref 100001), (1, .ref 0), (2, .ref 393), (3, .int i)]) (st' := [.ref 393, .int v]) (h' := zN s1) (Ps := []) rfl trivial ?_
  refine zG_callv (a := 393) (c := 10) (As := []) (rest := [.int v]) (N2 := 411) bdL33_b okMo_idle lk13_156 (And.intro (by decide) (by decide)) (by decide) rfl rfl rfl (Nat.le_of_ble_eq_true rfl) (Nat.le_of_ble_eq_true rfl) (Nat.le_refl 411) (Nat.le_refl 411) zob_393 (tMo_idle (bMo_idle hb.1.1 hb.1.2 hb.2.1.1 hb.2.1.2 (SR_P hT.1.1))) ?_
  intro rr2 h2 hP2 _
  obtain ⟨t2, rfl, rfl, hR, hf2⟩ := hK _ rr2 h2 hT hP2
  refine zb_iceq (tgt := 1527) bkL33_c bdL33_c (by decide) (lv' := [(0, .ref 100001), (1, .ref 0), (2, .ref 393), (3, .int i)]) (st' := []) (h' := zN t2) (x := v) (y := v) (Ps := []) rfl trivial (fun _ => ?_) (fun q => absurd rfl q)
  exact kk t2 (law_R hR hf2) (law_s e hf2)
theorem bkL34_a : zBk mLaw_law 1412 [(1, 1, 1, 0, 0), (1, 0, 1, 0, 0), (1, 3, 0, 0, 0), (0, 0, 0, 0, 1), (4, 0, 0, 0, 0), (7, 0, 0, 0, 0), (1, 0, 1, 0, 0), (1, 3, 0, 0, 0), (0, 0, 0, 0, 2), (4, 0, 0, 0, 0), (7, 0, 0, 0, 0)] = some 1423 := by decide +kernel
theorem bkL34_b : zBk mLaw_law 1426 [(1, 2, 1, 0, 0), (1, 0, 1, 0, 0), (1, 3, 0, 0, 0), (0, 0, 0, 0, 1), (4, 0, 0, 0, 0), (7, 0, 0, 0, 0), (1, 0, 1, 0, 0), (1, 3, 0, 0, 0), (0, 0, 0, 0, 2), (4, 0, 0, 0, 0), (7, 0, 0, 0, 0)] = some 1437 := by decide +kernel
theorem bkL34_c : zBk mLaw_law 1440 [] = some 1440 := by decide +kernel
theorem bdL34_a : decode mLaw_law.2.2.1 1423 = .ok (.invokevirtual 157, 3) := by decide +kernel
theorem bdL34_b : decode mLaw_law.2.2.1 1437 = .ok (.invokevirtual 160, 3) := by decide +kernel
theorem bdL34_c : decode mLaw_law.2.2.1 1440 = .ok (.if_icmp .eq 87, 3) := by decide +kernel
set_option maxHeartbeats 2000000 in
theorem law_raised {sg : zSig} {i : Int32} {Q : Option Value → zHp → Prop} (h : R2 sg sg) (hi : ∀ j, 0 ≤ j → j ≤ 8 → 0 ≤ i + j ∧ i + j < sg 100001 (-1)) (kk : ∀ sg', R2 sg' sg' → (∀ j, sg' 100001 j = sg 100001 j) → zG mLaw_law 411 Q 1527 [(0, .ref 100001), (1, .ref 0), (2, .ref 393), (3, .int i)] [] (zN sg')) : zG mLaw_law 411 Q 1412 [(0, .ref 100001), (1, .ref 0), (2, .ref 393), (3, .int i)] [] (zN sg) := by
  refine zG_run bkL34_a (lv' := [(0, .ref 100001), (1, .ref 0), (2, .ref 393), (3, .int i)]) (st' := [.int (sg 100001 (i + 2)), .int (sg 100001 (i + 1)), .ref 0]) (h' := zN sg) (Ps := [zInL (zN sg) 100001 (i + 1), zInL (zN sg) 100001 (i + 2)]) rfl (zA (lin (hi 1 (by decide) (by decide))) (zA (lin (hi 2 (by decide) (by decide))) trivial)) ?_
  refine zG_callv (a := 0) (c := 9) (As := [.int (sg 100001 (i + 1)), .int (sg 100001 (i + 2))]) (rest := []) (N2 := 411) bdL34_a okSR_raised lk13_157 (And.intro (by decide) (by decide)) (by decide) rfl rfl rfl (Nat.le_of_ble_eq_true rfl) (Nat.le_of_ble_eq_true rfl) (Nat.le_refl 411) (Nat.le_refl 411) zob_0 (cSR_raised h.1.1.1 h.1.2.1.1.1 h.1.2.1.1.2 h.1.2.1.2.1.1 h.1.2.1.2.1.2 h.2.2.2) ?_
  intro rr h' hP _
  obtain ⟨v, s1, rfl, rfl, hf, hK⟩ := K_raised rr h' hP
  have e : ∀ j, s1 100001 j = sg 100001 j := fun j => hf 100001 j (by decide)
  have hT : R2 sg (zup s1 393 0 0) := law_T h hf
  have hb := SR_b hT.1.1
  obtain ⟨u6, u11⟩ := law_u hT
  refine zG_run bkL34_b (lv' := [(0, .ref 100001), (1, .ref 0), (2, .ref 393), (3, .int i)]) (st' := [.int (s1 100001 (i + 2)), .int (s1 100001 (i + 1)), .ref 393, .int v]) (h' := zN s1) (Ps := [zInL (zN s1) 100001 (i + 1), zInL (zN s1) 100001 (i + 2)]) rfl (zA (lin (law_e e (hi 1 (by decide) (by decide)))) (zA (lin (law_e e (hi 2 (by decide) (by decide)))) trivial)) ?_
  simp only [e]
  refine zG_callv (a := 393) (c := 10) (As := [.int (sg 100001 (i + 1)), .int (sg 100001 (i + 2))]) (rest := [.int v]) (N2 := 411) bdL34_b okMo_raised lk13_160 (And.intro (by decide) (by decide)) (by decide) rfl rfl rfl (Nat.le_of_ble_eq_true rfl) (Nat.le_of_ble_eq_true rfl) (Nat.le_refl 411) (Nat.le_refl 411) zob_393 (tMo_raised (bMo_raised hb.1.1 hb.1.2 hb.2.1.1 hb.2.1.2 (SR_P hT.1.1))) ?_
  intro rr2 h2 hP2 _
  obtain ⟨t2, rfl, rfl, hR, hf2⟩ := hK _ rr2 h2 hT hP2
  refine zb_iceq (tgt := 1527) bkL34_c bdL34_c (by decide) (lv' := [(0, .ref 100001), (1, .ref 0), (2, .ref 393), (3, .int i)]) (st' := []) (h' := zN t2) (x := v) (y := v) (Ps := []) rfl trivial (fun _ => ?_) (fun q => absurd rfl q)
  exact kk t2 (law_R hR hf2) (law_s e hf2)
theorem bkL35_a : zBk mLaw_law 1445 [(1, 1, 1, 0, 0), (1, 0, 1, 0, 0), (1, 3, 0, 0, 0), (0, 0, 0, 0, 1), (4, 0, 0, 0, 0), (7, 0, 0, 0, 0), (1, 0, 1, 0, 0), (1, 3, 0, 0, 0), (0, 0, 0, 0, 2), (4, 0, 0, 0, 0), (7, 0, 0, 0, 0)] = some 1456 := by decide +kernel
theorem bkL35_b : zBk mLaw_law 1459 [(1, 2, 1, 0, 0), (1, 0, 1, 0, 0), (1, 3, 0, 0, 0), (0, 0, 0, 0, 1), (4, 0, 0, 0, 0), (7, 0, 0, 0, 0), (1, 0, 1, 0, 0), (1, 3, 0, 0, 0), (0, 0, 0, 0, 2), (4, 0, 0, 0, 0), (7, 0, 0, 0, 0)] = some 1470 := by decide +kernel
theorem bkL35_c : zBk mLaw_law 1473 [] = some 1473 := by decide +kernel
theorem bdL35_a : decode mLaw_law.2.2.1 1456 = .ok (.invokevirtual 161, 3) := by decide +kernel
theorem bdL35_b : decode mLaw_law.2.2.1 1470 = .ok (.invokevirtual 164, 3) := by decide +kernel
theorem bdL35_c : decode mLaw_law.2.2.1 1473 = .ok (.if_icmp .eq 54, 3) := by decide +kernel
set_option maxHeartbeats 2000000 in
theorem law_best {sg : zSig} {i : Int32} {Q : Option Value → zHp → Prop} (h : R2 sg sg) (hi : ∀ j, 0 ≤ j → j ≤ 8 → 0 ≤ i + j ∧ i + j < sg 100001 (-1)) (kk : ∀ sg', R2 sg' sg' → (∀ j, sg' 100001 j = sg 100001 j) → zG mLaw_law 411 Q 1527 [(0, .ref 100001), (1, .ref 0), (2, .ref 393), (3, .int i)] [] (zN sg')) : zG mLaw_law 411 Q 1445 [(0, .ref 100001), (1, .ref 0), (2, .ref 393), (3, .int i)] [] (zN sg) := by
  refine zG_run bkL35_a (lv' := [(0, .ref 100001), (1, .ref 0), (2, .ref 393), (3, .int i)]) (st' := [.int (sg 100001 (i + 2)), .int (sg 100001 (i + 1)), .ref 0]) (h' := zN sg) (Ps := [zInL (zN sg) 100001 (i + 1), zInL (zN sg) 100001 (i + 2)]) rfl (zA (lin (hi 1 (by decide) (by decide))) (zA (lin (hi 2 (by decide) (by decide))) trivial)) ?_
  refine zG_callv (a := 0) (c := 9) (As := [.int (sg 100001 (i + 1)), .int (sg 100001 (i + 2))]) (rest := []) (N2 := 411) bdL35_a okSR_best lk13_161 (And.intro (by decide) (by decide)) (by decide) rfl rfl rfl (Nat.le_of_ble_eq_true rfl) (Nat.le_of_ble_eq_true rfl) (Nat.le_refl 411) (Nat.le_refl 411) zob_0 (cSR_best h.1.1.1 h.1.2.1.1.1 h.1.2.1.1.2 h.1.2.1.2.1.1 h.1.2.1.2.1.2 h.2.2.2) ?_
  intro rr h' hP _
  obtain ⟨v, s1, rfl, rfl, hf, hK⟩ := K_best rr h' hP
  have e : ∀ j, s1 100001 j = sg 100001 j := fun j => hf 100001 j (by decide)
  have hT : R2 sg (zup s1 393 0 0) := law_T h hf
  have hb := SR_b hT.1.1
  obtain ⟨u6, u11⟩ := law_u hT
  refine zG_run bkL35_b (lv' := [(0, .ref 100001), (1, .ref 0), (2, .ref 393), (3, .int i)]) (st' := [.int (s1 100001 (i + 2)), .int (s1 100001 (i + 1)), .ref 393, .int v]) (h' := zN s1) (Ps := [zInL (zN s1) 100001 (i + 1), zInL (zN s1) 100001 (i + 2)]) rfl (zA (lin (law_e e (hi 1 (by decide) (by decide)))) (zA (lin (law_e e (hi 2 (by decide) (by decide)))) trivial)) ?_
  simp only [e]
  refine zG_callv (a := 393) (c := 10) (As := [.int (sg 100001 (i + 1)), .int (sg 100001 (i + 2))]) (rest := [.int v]) (N2 := 411) bdL35_b okMo_best lk13_164 (And.intro (by decide) (by decide)) (by decide) rfl rfl rfl (Nat.le_of_ble_eq_true rfl) (Nat.le_of_ble_eq_true rfl) (Nat.le_refl 411) (Nat.le_refl 411) zob_393 (tMo_best (bMo_best hb.1.1 hb.1.2 hb.2.1.1 hb.2.1.2 (SR_P hT.1.1))) ?_
  intro rr2 h2 hP2 _
  obtain ⟨t2, rfl, rfl, hR, hf2⟩ := hK _ rr2 h2 hT hP2
  refine zb_iceq (tgt := 1527) bkL35_c bdL35_c (by decide) (lv' := [(0, .ref 100001), (1, .ref 0), (2, .ref 393), (3, .int i)]) (st' := []) (h' := zN t2) (x := v) (y := v) (Ps := []) rfl trivial (fun _ => ?_) (fun q => absurd rfl q)
  exact kk t2 (law_R hR hf2) (law_s e hf2)
theorem bkL36_a : zBk mLaw_law 1478 [(1, 1, 1, 0, 0)] = some 1479 := by decide +kernel
theorem bkL36_b : zBk mLaw_law 1482 [(1, 2, 1, 0, 0)] = some 1483 := by decide +kernel
theorem bkL36_c : zBk mLaw_law 1486 [] = some 1486 := by decide +kernel
theorem bdL36_a : decode mLaw_law.2.2.1 1479 = .ok (.invokevirtual 165, 3) := by decide +kernel
theorem bdL36_b : decode mLaw_law.2.2.1 1483 = .ok (.invokevirtual 168, 3) := by decide +kernel
theorem bdL36_c : decode mLaw_law.2.2.1 1486 = .ok (.if_icmp .eq 41, 3) := by decide +kernel
set_option maxHeartbeats 2000000 in
theorem law_crossed {sg : zSig} {i : Int32} {Q : Option Value → zHp → Prop} (h : R2 sg sg) (hi : ∀ j, 0 ≤ j → j ≤ 8 → 0 ≤ i + j ∧ i + j < sg 100001 (-1)) (kk : ∀ sg', R2 sg' sg' → (∀ j, sg' 100001 j = sg 100001 j) → zG mLaw_law 411 Q 1527 [(0, .ref 100001), (1, .ref 0), (2, .ref 393), (3, .int i)] [] (zN sg')) : zG mLaw_law 411 Q 1478 [(0, .ref 100001), (1, .ref 0), (2, .ref 393), (3, .int i)] [] (zN sg) := by
  refine zG_run bkL36_a (lv' := [(0, .ref 100001), (1, .ref 0), (2, .ref 393), (3, .int i)]) (st' := [.ref 0]) (h' := zN sg) (Ps := []) rfl trivial ?_
  refine zG_callv (a := 0) (c := 9) (As := []) (rest := []) (N2 := 411) bdL36_a okSR_crossed lk13_165 (And.intro (by decide) (by decide)) (by decide) rfl rfl rfl (Nat.le_of_ble_eq_true rfl) (Nat.le_of_ble_eq_true rfl) (Nat.le_refl 411) (Nat.le_refl 411) zob_0 (cSR_crossed h.1.1.1 h.1.2.1.1.1 h.1.2.1.1.2 h.1.2.1.2.1.1 h.1.2.1.2.1.2 h.2.2.2) ?_
  intro rr h' hP _
  obtain ⟨v, s1, rfl, rfl, hf, hK⟩ := K_crossed rr h' hP
  have e : ∀ j, s1 100001 j = sg 100001 j := fun j => hf 100001 j (by decide)
  have hT : R2 sg (zup s1 393 0 0) := law_T h hf
  have hb := SR_b hT.1.1
  obtain ⟨u6, u11⟩ := law_u hT
  refine zG_run bkL36_b (lv' := [(0, .ref 100001), (1, .ref 0), (2, .ref 393), (3, .int i)]) (st' := [.ref 393, .int v]) (h' := zN s1) (Ps := []) rfl trivial ?_
  refine zG_callv (a := 393) (c := 10) (As := []) (rest := [.int v]) (N2 := 411) bdL36_b okMo_crossed lk13_168 (And.intro (by decide) (by decide)) (by decide) rfl rfl rfl (Nat.le_of_ble_eq_true rfl) (Nat.le_of_ble_eq_true rfl) (Nat.le_refl 411) (Nat.le_refl 411) zob_393 (tMo_crossed (bMo_crossed hb.1.1 hb.1.2 hb.2.1.1 hb.2.1.2)) ?_
  intro rr2 h2 hP2 _
  obtain ⟨t2, rfl, rfl, hR, hf2⟩ := hK _ rr2 h2 hT hP2
  refine zb_iceq (tgt := 1527) bkL36_c bdL36_c (by decide) (lv' := [(0, .ref 100001), (1, .ref 0), (2, .ref 393), (3, .int i)]) (st' := []) (h' := zN t2) (x := v) (y := v) (Ps := []) rfl trivial (fun _ => ?_) (fun q => absurd rfl q)
  exact kk t2 (law_R hR hf2) (law_s e hf2)
theorem bkL37_a : zBk mLaw_law 1491 [(1, 1, 1, 0, 0), (1, 0, 1, 0, 0), (1, 3, 0, 0, 0), (0, 0, 0, 0, 1), (4, 0, 0, 0, 0), (7, 0, 0, 0, 0)] = some 1497 := by decide +kernel
theorem bkL37_b : zBk mLaw_law 1500 [(1, 2, 1, 0, 0), (1, 0, 1, 0, 0), (1, 3, 0, 0, 0), (0, 0, 0, 0, 1), (4, 0, 0, 0, 0), (7, 0, 0, 0, 0)] = some 1506 := by decide +kernel
theorem bkL37_c : zBk mLaw_law 1509 [] = some 1509 := by decide +kernel
theorem bdL37_a : decode mLaw_law.2.2.1 1497 = .ok (.invokevirtual 169, 3) := by decide +kernel
theorem bdL37_b : decode mLaw_law.2.2.1 1506 = .ok (.invokevirtual 172, 3) := by decide +kernel
theorem bdL37_c : decode mLaw_law.2.2.1 1509 = .ok (.if_icmp .eq 18, 3) := by decide +kernel
set_option maxHeartbeats 2000000 in
theorem law_count {sg : zSig} {i : Int32} {Q : Option Value → zHp → Prop} (h : R2 sg sg) (hi : ∀ j, 0 ≤ j → j ≤ 8 → 0 ≤ i + j ∧ i + j < sg 100001 (-1)) (kk : ∀ sg', R2 sg' sg' → (∀ j, sg' 100001 j = sg 100001 j) → zG mLaw_law 411 Q 1527 [(0, .ref 100001), (1, .ref 0), (2, .ref 393), (3, .int i)] [] (zN sg')) : zG mLaw_law 411 Q 1491 [(0, .ref 100001), (1, .ref 0), (2, .ref 393), (3, .int i)] [] (zN sg) := by
  refine zG_run bkL37_a (lv' := [(0, .ref 100001), (1, .ref 0), (2, .ref 393), (3, .int i)]) (st' := [.int (sg 100001 (i + 1)), .ref 0]) (h' := zN sg) (Ps := [zInL (zN sg) 100001 (i + 1)]) rfl (zA (lin (hi 1 (by decide) (by decide))) trivial) ?_
  refine zG_callv (a := 0) (c := 9) (As := [.int (sg 100001 (i + 1))]) (rest := []) (N2 := 411) bdL37_a okSR_count lk13_169 (And.intro (by decide) (by decide)) (by decide) rfl rfl rfl (Nat.le_of_ble_eq_true rfl) (Nat.le_of_ble_eq_true rfl) (Nat.le_refl 411) (Nat.le_refl 411) zob_0 (cSR_count h.1.1.1 h.1.2.1.1.1 h.1.2.1.1.2 h.1.2.1.2.1.1 h.1.2.1.2.1.2 h.2.2.2) ?_
  intro rr h' hP _
  obtain ⟨v, s1, rfl, rfl, hf, hK⟩ := K_count rr h' hP
  have e : ∀ j, s1 100001 j = sg 100001 j := fun j => hf 100001 j (by decide)
  have hT : R2 sg (zup s1 393 0 0) := law_T h hf
  have hb := SR_b hT.1.1
  obtain ⟨u6, u11⟩ := law_u hT
  refine zG_run bkL37_b (lv' := [(0, .ref 100001), (1, .ref 0), (2, .ref 393), (3, .int i)]) (st' := [.int (s1 100001 (i + 1)), .ref 393, .int v]) (h' := zN s1) (Ps := [zInL (zN s1) 100001 (i + 1)]) rfl (zA (lin (law_e e (hi 1 (by decide) (by decide)))) trivial) ?_
  simp only [e]
  refine zG_callv (a := 393) (c := 10) (As := [.int (sg 100001 (i + 1))]) (rest := [.int v]) (N2 := 411) bdL37_b okMo_count lk13_172 (And.intro (by decide) (by decide)) (by decide) rfl rfl rfl (Nat.le_of_ble_eq_true rfl) (Nat.le_of_ble_eq_true rfl) (Nat.le_refl 411) (Nat.le_refl 411) zob_393 (tMo_count (bMo_count hb.1.1 hb.1.2 hb.2.1.1 hb.2.1.2 (SR_P hT.1.1) hb.2.2.1 hb.2.2.2)) ?_
  intro rr2 h2 hP2 _
  obtain ⟨t2, rfl, rfl, hR, hf2⟩ := hK _ rr2 h2 hT hP2
  refine zb_iceq (tgt := 1527) bkL37_c bdL37_c (by decide) (lv' := [(0, .ref 100001), (1, .ref 0), (2, .ref 393), (3, .int i)]) (st' := []) (h' := zN t2) (x := v) (y := v) (Ps := []) rfl trivial (fun _ => ?_) (fun q => absurd rfl q)
  exact kk t2 (law_R hR hf2) (law_s e hf2)
theorem bkL38_a : zBk mLaw_law 1514 [(1, 1, 1, 0, 0)] = some 1515 := by decide +kernel
theorem bkL38_b : zBk mLaw_law 1518 [(1, 2, 1, 0, 0)] = some 1519 := by decide +kernel
theorem bkL38_c : zBk mLaw_law 1522 [] = some 1522 := by decide +kernel
theorem bdL38_a : decode mLaw_law.2.2.1 1515 = .ok (.invokevirtual 173, 3) := by decide +kernel
theorem bdL38_b : decode mLaw_law.2.2.1 1519 = .ok (.invokevirtual 176, 3) := by decide +kernel
theorem bdL38_c : decode mLaw_law.2.2.1 1522 = .ok (.if_icmp .eq 5, 3) := by decide +kernel
set_option maxHeartbeats 2000000 in
theorem law_status {sg : zSig} {i : Int32} {Q : Option Value → zHp → Prop} (h : R2 sg sg) (hi : ∀ j, 0 ≤ j → j ≤ 8 → 0 ≤ i + j ∧ i + j < sg 100001 (-1)) (kk : ∀ sg', R2 sg' sg' → (∀ j, sg' 100001 j = sg 100001 j) → zG mLaw_law 411 Q 1527 [(0, .ref 100001), (1, .ref 0), (2, .ref 393), (3, .int i)] [] (zN sg')) : zG mLaw_law 411 Q 1514 [(0, .ref 100001), (1, .ref 0), (2, .ref 393), (3, .int i)] [] (zN sg) := by
  refine zG_run bkL38_a (lv' := [(0, .ref 100001), (1, .ref 0), (2, .ref 393), (3, .int i)]) (st' := [.ref 0]) (h' := zN sg) (Ps := []) rfl trivial ?_
  refine zG_callv (a := 0) (c := 9) (As := []) (rest := []) (N2 := 411) bdL38_a okSR_status lk13_173 (And.intro (by decide) (by decide)) (by decide) rfl rfl rfl (Nat.le_of_ble_eq_true rfl) (Nat.le_of_ble_eq_true rfl) (Nat.le_refl 411) (Nat.le_refl 411) zob_0 (cSR_status ) ?_
  intro rr h' hP _
  obtain ⟨v, s1, rfl, rfl, hf, hK⟩ := K_status rr h' hP
  have e : ∀ j, s1 100001 j = sg 100001 j := fun j => hf 100001 j (by decide)
  have hT : R2 sg (zup s1 393 0 0) := law_T h hf
  have hb := SR_b hT.1.1
  obtain ⟨u6, u11⟩ := law_u hT
  refine zG_run bkL38_b (lv' := [(0, .ref 100001), (1, .ref 0), (2, .ref 393), (3, .int i)]) (st' := [.ref 393, .int v]) (h' := zN s1) (Ps := []) rfl trivial ?_
  refine zG_callv (a := 393) (c := 10) (As := []) (rest := [.int v]) (N2 := 411) bdL38_b okMo_status lk13_176 (And.intro (by decide) (by decide)) (by decide) rfl rfl rfl (Nat.le_of_ble_eq_true rfl) (Nat.le_of_ble_eq_true rfl) (Nat.le_refl 411) (Nat.le_refl 411) zob_393 (tMo_status (bMo_status )) ?_
  intro rr2 h2 hP2 _
  obtain ⟨t2, rfl, rfl, hR, hf2⟩ := hK _ rr2 h2 hT hP2
  refine zb_iceq (tgt := 1527) bkL38_c bdL38_c (by decide) (lv' := [(0, .ref 100001), (1, .ref 0), (2, .ref 393), (3, .int i)]) (st' := []) (h' := zN t2) (x := v) (y := v) (Ps := []) rfl trivial (fun _ => ?_) (fun q => absurd rfl q)
  exact kk t2 (law_R hR hf2) (law_s e hf2)

/-! the law: a case of its switch -/
theorem lin {s : zSig} {j : Int32} (h : 0 ≤ j ∧ j < s 100001 (-1)) : zInL (zN s) 100001 j := Or.inr (Or.inr ⟨rfl, h.1, h.2⟩)
theorem law_e {s s1 : zSig} {j : Int32} (e : ∀ j, s1 100001 j = s 100001 j) (h : 0 ≤ j ∧ j < s 100001 (-1)) : 0 ≤ j ∧ j < s1 100001 (-1) := by rw [e]; exact h
theorem law_T {s s1 : zSig} (h : R2 s s) (hf : ∀ c j, 393 ≤ c → s1 c j = s c j) : R2 s (zup s1 393 0 0) := R2_t h (fun c j a _ d => by
  rw [zup_e, if_neg (fun q => d.elim (fun g => g q.1) (fun g => g q.2))]; exact hf c j a)
theorem law_u {s t : zSig} (h : R2 s t) : (0 ≤ t 393 6 ∧ t 393 6 ≤ 8) ∧ 0 ≤ t 393 11 ∧ t 393 11 ≤ 400 := by
  rw [h.1.2.1.2.2.1, h.2.1.2.1]; exact ⟨h.1.2.1.2.1, h.2.1.1⟩
theorem law_R {s1 t2 : zSig} (h : R2 s1 t2) (hf : ∀ c j, c < 393 ∨ 411 ≤ c → t2 c j = zup s1 393 0 0 c j) : R2 t2 t2 := R2_s h (fun c j q => by
  rw [hf c j (by omega), zup_a (by omega)])
theorem law_s {s s1 t2 : zSig} (e : ∀ j, s1 100001 j = s 100001 j) (hf : ∀ c j, c < 393 ∨ 411 ≤ c → t2 c j = zup s1 393 0 0 c j) (j : Int32) : t2 100001 j = s 100001 j := by
  rw [hf 100001 j (by decide), zup_a (by decide)]; exact e j
theorem bkL0_a : zBk mLaw_law 204 [(1, 1, 1, 0, 0), (1, 0, 1, 0, 0), (1, 3, 0, 0, 0), (0, 0, 0, 0, 1), (4, 0, 0, 0, 0), (7, 0, 0, 0, 0), (1, 0, 1, 0, 0), (1, 3, 0, 0, 0), (0, 0, 0, 0, 2), (4, 0, 0, 0, 0), (7, 0, 0, 0, 0), (1, 0, 1, 0, 0), (1, 3, 0, 0, 0), (0, 0, 0, 0, 3), (4, 0, 0, 0, 0), (7, 0, 0, 0, 0), (1, 0, 1, 0, 0), (1, 3, 0, 0, 0), (0, 0, 0, 0, 4), (4, 0, 0, 0, 0), (7, 0, 0, 0, 0), (1, 0, 1, 0, 0), (1, 3, 0, 0, 0), (0, 0, 0, 0, 5), (4, 0, 0, 0, 0), (7, 0, 0, 0, 0)] = some 230 := by decide +kernel
theorem bkL0_b : zBk mLaw_law 233 [(1, 2, 1, 0, 0), (1, 0, 1, 0, 0), (1, 3, 0, 0, 0), (0, 0, 0, 0, 1), (4, 0, 0, 0, 0), (7, 0, 0, 0, 0), (1, 0, 1, 0, 0), (1, 3, 0, 0, 0), (0, 0, 0, 0, 2), (4, 0, 0, 0, 0), (7, 0, 0, 0, 0), (1, 0, 1, 0, 0), (1, 3, 0, 0, 0), (0, 0, 0, 0, 3), (4, 0, 0, 0, 0), (7, 0, 0, 0, 0), (1, 0, 1, 0, 0), (1, 3, 0, 0, 0), (0, 0, 0, 0, 4), (4, 0, 0, 0, 0), (7, 0, 0, 0, 0), (1, 0, 1, 0, 0), (1, 3, 0, 0, 0), (0, 0, 0, 0, 5), (4, 0, 0, 0, 0), (7, 0, 0, 0, 0)] = some 259 := by decide +kernel
theorem bkL0_c : zBk mLaw_law 262 [] = some 262 := by decide +kernel
theorem bdL0_a : decode mLaw_law.2.2.1 230 = .ok (.invokevirtual 13, 3) := by decide +kernel
theorem bdL0_b : decode mLaw_law.2.2.1 259 = .ok (.invokevirtual 17, 3) := by decide +kernel
theorem bdL0_c : decode mLaw_law.2.2.1 262 = .ok (.if_icmp .eq 1265, 3) := by decide +kernel
set_option maxHeartbeats 2000000 in
theorem law_feed {sg : zSig} {i : Int32} {Q : Option Value → zHp → Prop} (h : R2 sg sg) (hi : ∀ j, 0 ≤ j → j ≤ 8 → 0 ≤ i + j ∧ i + j < sg 100001 (-1)) (kk : ∀ sg', R2 sg' sg' → (∀ j, sg' 100001 j = sg 100001 j) → zG mLaw_law 411 Q 1527 [(0, .ref 100001), (1, .ref 0), (2, .ref 393), (3, .int i)] [] (zN sg')) : zG mLaw_law 411 Q 204 [(0, .ref 100001), (1, .ref 0), (2, .ref 393), (3, .int i)] [] (zN sg) := by
  refine zG_run bkL0_a (lv' := [(0, .ref 100001), (1, .ref 0), (2, .ref 393), (3, .int i)]) (st' := [.int (sg 100001 (i + 5)), .int (sg 100001 (i + 4)), .int (sg 100001 (i + 3)), .int (sg 100001 (i + 2)), .int (sg 100001 (i + 1)), .ref 0]) (h' := zN sg) (Ps := [zInL (zN sg) 100001 (i + 1), zInL (zN sg) 100001 (i + 2), zInL (zN sg) 100001 (i + 3), zInL (zN sg) 100001 (i + 4), zInL (zN sg) 100001 (i + 5)]) rfl (zA (lin (hi 1 (by decide) (by decide))) (zA (lin (hi 2 (by decide) (by decide))) (zA (lin (hi 3 (by decide) (by decide))) (zA (lin (hi 4 (by decide) (by decide))) (zA (lin (hi 5 (by decide) (by decide))) trivial))))) ?_
  refine zG_callv (a := 0) (c := 9) (As := [.int (sg 100001 (i + 1)), .int (sg 100001 (i + 2)), .int (sg 100001 (i + 3)), .int (sg 100001 (i + 4)), .int (sg 100001 (i + 5))]) (rest := []) (N2 := 411) bdL0_a okSR_feed lk13_13 (And.intro (by decide) (by decide)) (by decide) rfl rfl rfl (Nat.le_of_ble_eq_true rfl) (Nat.le_of_ble_eq_true rfl) (Nat.le_refl 411) (Nat.le_refl 411) zob_0 (cSR_feed h.2.1.1.1 h.2.1.1.2) ?_
  intro rr h' hP _
  obtain ⟨v, s1, rfl, rfl, hf, hK⟩ := K_feed h rr h' hP
  have e : ∀ j, s1 100001 j = sg 100001 j := fun j => hf 100001 j (by decide)
  have hT : R2 sg (zup s1 393 0 0) := law_T h hf
  have hb := SR_b hT.1.1
  obtain ⟨u6, u11⟩ := law_u hT
  refine zG_run bkL0_b (lv' := [(0, .ref 100001), (1, .ref 0), (2, .ref 393), (3, .int i)]) (st' := [.int (s1 100001 (i + 5)), .int (s1 100001 (i + 4)), .int (s1 100001 (i + 3)), .int (s1 100001 (i + 2)), .int (s1 100001 (i + 1)), .ref 393, .int v]) (h' := zN s1) (Ps := [zInL (zN s1) 100001 (i + 1), zInL (zN s1) 100001 (i + 2), zInL (zN s1) 100001 (i + 3), zInL (zN s1) 100001 (i + 4), zInL (zN s1) 100001 (i + 5)]) rfl (zA (lin (law_e e (hi 1 (by decide) (by decide)))) (zA (lin (law_e e (hi 2 (by decide) (by decide)))) (zA (lin (law_e e (hi 3 (by decide) (by decide)))) (zA (lin (law_e e (hi 4 (by decide) (by decide)))) (zA (lin (law_e e (hi 5 (by decide) (by decide)))) trivial))))) ?_
  simp only [e]
  refine zG_callv (a := 393) (c := 10) (As := [.int (sg 100001 (i + 1)), .int (sg 100001 (i + 2)), .int (sg 100001 (i + 3)), .int (sg 100001 (i + 4)), .int (sg 100001 (i + 5))]) (rest := [.int v]) (N2 := 411) bdL0_b okMo_feed lk13_17 (And.intro (by decide) (by decide)) (by decide) rfl rfl rfl (Nat.le_of_ble_eq_true rfl) (Nat.le_of_ble_eq_true rfl) (Nat.le_refl 411) (Nat.le_refl 411) zob_393 (tMo_feed (bMo_feed u11.1 u11.2)) ?_
  intro rr2 h2 hP2 _
  obtain ⟨t2, rfl, rfl, hR, hf2⟩ := hK _ rr2 h2 hT hP2
  refine zb_iceq (tgt := 1527) bkL0_c bdL0_c (by decide) (lv' := [(0, .ref 100001), (1, .ref 0), (2, .ref 393), (3, .int i)]) (st' := []) (h' := zN t2) (x := v) (y := v) (Ps := []) rfl trivial (fun _ => ?_) (fun q => absurd rfl q)
  exact kk t2 (law_R hR hf2) (law_s e hf2)
theorem bkL1_a : zBk mLaw_law 267 [(1, 1, 1, 0, 0), (1, 0, 1, 0, 0), (1, 3, 0, 0, 0), (0, 0, 0, 0, 1), (4, 0, 0, 0, 0), (7, 0, 0, 0, 0)] = some 273 := by decide +kernel
theorem bkL1_b : zBk mLaw_law 276 [(1, 2, 1, 0, 0), (1, 0, 1, 0, 0), (1, 3, 0, 0, 0), (0, 0, 0, 0, 1), (4, 0, 0, 0, 0), (7, 0, 0, 0, 0)] = some 282 := by decide +kernel
theorem bkL1_c : zBk mLaw_law 285 [] = some 285 := by decide +kernel
theorem bdL1_a : decode mLaw_law.2.2.1 273 = .ok (.invokevirtual 18, 3) := by decide +kernel
theorem bdL1_b : decode mLaw_law.2.2.1 282 = .ok (.invokevirtual 22, 3) := by decide +kernel
theorem bdL1_c : decode mLaw_law.2.2.1 285 = .ok (.if_icmp .eq 1242, 3) := by decide +kernel
set_option maxHeartbeats 2000000 in
theorem law_end {sg : zSig} {i : Int32} {Q : Option Value → zHp → Prop} (h : R2 sg sg) (hi : ∀ j, 0 ≤ j → j ≤ 8 → 0 ≤ i + j ∧ i + j < sg 100001 (-1)) (kk : ∀ sg', R2 sg' sg' → (∀ j, sg' 100001 j = sg 100001 j) → zG mLaw_law 411 Q 1527 [(0, .ref 100001), (1, .ref 0), (2, .ref 393), (3, .int i)] [] (zN sg')) : zG mLaw_law 411 Q 267 [(0, .ref 100001), (1, .ref 0), (2, .ref 393), (3, .int i)] [] (zN sg) := by
  refine zG_run bkL1_a (lv' := [(0, .ref 100001), (1, .ref 0), (2, .ref 393), (3, .int i)]) (st' := [.int (sg 100001 (i + 1)), .ref 0]) (h' := zN sg) (Ps := [zInL (zN sg) 100001 (i + 1)]) rfl (zA (lin (hi 1 (by decide) (by decide))) trivial) ?_
  refine zG_callv (a := 0) (c := 9) (As := [.int (sg 100001 (i + 1))]) (rest := []) (N2 := 411) bdL1_a okSR_end lk13_18 (And.intro (by decide) (by decide)) (by decide) rfl rfl rfl (Nat.le_of_ble_eq_true rfl) (Nat.le_of_ble_eq_true rfl) (Nat.le_refl 411) (Nat.le_refl 411) zob_0 (cSR_end ) ?_
  intro rr h' hP _
  obtain ⟨v, s1, rfl, rfl, hf, hK⟩ := K_end h rr h' hP
  have e : ∀ j, s1 100001 j = sg 100001 j := fun j => hf 100001 j (by decide)
  have hT : R2 sg (zup s1 393 0 0) := law_T h hf
  have hb := SR_b hT.1.1
  obtain ⟨u6, u11⟩ := law_u hT
  refine zG_run bkL1_b (lv' := [(0, .ref 100001), (1, .ref 0), (2, .ref 393), (3, .int i)]) (st' := [.int (s1 100001 (i + 1)), .ref 393, .int v]) (h' := zN s1) (Ps := [zInL (zN s1) 100001 (i + 1)]) rfl (zA (lin (law_e e (hi 1 (by decide) (by decide)))) trivial) ?_
  simp only [e]
  refine zG_callv (a := 393) (c := 10) (As := [.int (sg 100001 (i + 1))]) (rest := [.int v]) (N2 := 411) bdL1_b okMo_end lk13_22 (And.intro (by decide) (by decide)) (by decide) rfl rfl rfl (Nat.le_of_ble_eq_true rfl) (Nat.le_of_ble_eq_true rfl) (Nat.le_refl 411) (Nat.le_refl 411) zob_393 (tMo_end (bMo_end )) ?_
  intro rr2 h2 hP2 _
  obtain ⟨t2, rfl, rfl, hR, hf2⟩ := hK _ rr2 h2 hT hP2
  refine zb_iceq (tgt := 1527) bkL1_c bdL1_c (by decide) (lv' := [(0, .ref 100001), (1, .ref 0), (2, .ref 393), (3, .int i)]) (st' := []) (h' := zN t2) (x := v) (y := v) (Ps := []) rfl trivial (fun _ => ?_) (fun q => absurd rfl q)
  exact kk t2 (law_R hR hf2) (law_s e hf2)
theorem bkL38_a : zBk mLaw_law 1514 [(1, 1, 1, 0, 0)] = some 1515 := by decide +kernel
theorem bkL38_b : zBk mLaw_law 1518 [(1, 2, 1, 0, 0)] = some 1519 := by decide +kernel
theorem bkL38_c : zBk mLaw_law 1522 [] = some 1522 := by decide +kernel
theorem bdL38_a : decode mLaw_law.2.2.1 1515 = .ok (.invokevirtual 173, 3) := by decide +kernel
theorem bdL38_b : decode mLaw_law.2.2.1 1519 = .ok (.invokevirtual 176, 3) := by decide +kernel
theorem bdL38_c : decode mLaw_law.2.2.1 1522 = .ok (.if_icmp .eq 5, 3) := by decide +kernel
set_option maxHeartbeats 2000000 in
theorem law_status {sg : zSig} {i : Int32} {Q : Option Value → zHp → Prop} (h : R2 sg sg) (hi : ∀ j, 0 ≤ j → j ≤ 8 → 0 ≤ i + j ∧ i + j < sg 100001 (-1)) (kk : ∀ sg', R2 sg' sg' → (∀ j, sg' 100001 j = sg 100001 j) → zG mLaw_law 411 Q 1527 [(0, .ref 100001), (1, .ref 0), (2, .ref 393), (3, .int i)] [] (zN sg')) : zG mLaw_law 411 Q 1514 [(0, .ref 100001), (1, .ref 0), (2, .ref 393), (3, .int i)] [] (zN sg) := by
  refine zG_run bkL38_a (lv' := [(0, .ref 100001), (1, .ref 0), (2, .ref 393), (3, .int i)]) (st' := [.ref 0]) (h' := zN sg) (Ps := []) rfl trivial ?_
  refine zG_callv (a := 0) (c := 9) (As := []) (rest := []) (N2 := 411) bdL38_a okSR_status lk13_173 (And.intro (by decide) (by decide)) (by decide) rfl rfl rfl (Nat.le_of_ble_eq_true rfl) (Nat.le_of_ble_eq_true rfl) (Nat.le_refl 411) (Nat.le_refl 411) zob_0 (cSR_status ) ?_
  intro rr h' hP _
  obtain ⟨v, s1, rfl, rfl, hf, hK⟩ := K_status rr h' hP
  have e : ∀ j, s1 100001 j = sg 100001 j := fun j => hf 100001 j (by decide)
  have hT : R2 sg (zup s1 393 0 0) := law_T h hf
  have hb := SR_b hT.1.1
  obtain ⟨u6, u11⟩ := law_u hT
  refine zG_run bkL38_b (lv' := [(0, .ref 100001), (1, .ref 0), (2, .ref 393), (3, .int i)]) (st' := [.ref 393, .int v]) (h' := zN s1) (Ps := []) rfl trivial ?_
  refine zG_callv (a := 393) (c := 10) (As := []) (rest := [.int v]) (N2 := 411) bdL38_b okMo_status lk13_176 (And.intro (by decide) (by decide)) (by decide) rfl rfl rfl (Nat.le_of_ble_eq_true rfl) (Nat.le_of_ble_eq_true rfl) (Nat.le_refl 411) (Nat.le_refl 411) zob_393 (tMo_status (bMo_status )) ?_
  intro rr2 h2 hP2 _
  obtain ⟨t2, rfl, rfl, hR, hf2⟩ := hK _ rr2 h2 hT hP2
  refine zb_iceq (tgt := 1527) bkL38_c bdL38_c (by decide) (lv' := [(0, .ref 100001), (1, .ref 0), (2, .ref 393), (3, .int i)]) (st' := []) (h' := zN t2) (x := v) (y := v) (Ps := []) rfl trivial (fun _ => ?_) (fun q => absurd rfl q)
  exact kk t2 (law_R hR hf2) (law_s e hf2)

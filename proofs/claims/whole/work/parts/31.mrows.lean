/-! the reference: rows of numbers: printed by wip/whole/p31.py -/
theorem zadd_l (x f g : Int32) : x + f = x + g ↔ f = g := ⟨fun h => by grind, fun h => by rw [h]⟩
theorem zadd_0 (x g : Int32) : x = x + g ↔ g = 0 := ⟨fun h => by grind, fun h => by grind⟩
theorem zadd_0' (x f : Int32) : x + f = x ↔ f = 0 := ⟨fun h => by grind, fun h => by grind⟩
theorem zcp_s {sg : zSig} {a b : Nat} {sp dp k e : Int32} (hab : a ≠ b) (d0 : 0 ≤ dp) (d1 : dp ≤ 100000) (k0 : 0 ≤ k) (k1 : k < e) (e1 : e ≤ 100000) : zup (zcp sg a b sp dp k) b (dp + k) (zcp sg a b sp dp k a (sp + k)) = zcp sg a b sp dp (k + 1) := by
  funext c j
  have e1 : zcp sg a b sp dp k a (sp + k) = sg a (sp + k) := by rw [zcp_e, if_neg (fun q => hab q.1)]
  rw [e1, zup_e]
  by_cases hc : c = b
  · by_cases hj : j = dp + k
    · rw [if_pos ⟨hc, hj⟩, zcp_e, if_pos ⟨hc, by lia, by lia⟩, hj]
      congr 1
      clear d0 d1 k0 k1 e1
      grind
    · rw [if_neg (fun q => hj q.2), zcp_e (n := k), zcp_e (n := k + 1)]
      by_cases h : dp ≤ j ∧ j < dp + k
      · rw [if_pos ⟨hc, h.1, h.2⟩, if_pos ⟨hc, by lia, by lia⟩]
      · rw [if_neg (fun q => h q.2), if_neg (fun q => h ⟨q.2.1, by lia⟩)]
  · rw [if_neg (fun q => hc q.1), zcp_e (n := k), zcp_e (n := k + 1), if_neg (fun q => hc q.1), if_neg (fun q => hc q.1)]
theorem zcp_0 {sg : zSig} {a b : Nat} {sp dp : Int32} : zcp sg a b sp dp 0 = sg := by
  funext c j
  rw [zcp_e, if_neg]
  rintro ⟨-, h1, h2⟩
  rw [show dp + 0 = dp by grind] at h2
  lia
theorem bkMo_copy_0 : zBk mMo_copy 0 [(0, 0, 0, 0, 0), (2, 4, 0, 0, 0)] = some 3 := by decide +kernel
theorem bkMo_copy_3 : zBk mMo_copy 3 [(1, 4, 0, 0, 0), (0, 0, 0, 0, 995)] = some 8 := by decide +kernel
theorem bkMo_copy_29 : zBk mMo_copy 29 [] = some 29 := by decide +kernel
theorem bkMo_copy_11 : zBk mMo_copy 11 [(1, 2, 1, 0, 0), (1, 3, 0, 0, 0), (1, 4, 0, 0, 0), (4, 0, 0, 0, 0), (1, 0, 1, 0, 0), (1, 1, 0, 0, 0), (1, 4, 0, 0, 0), (4, 0, 0, 0, 0), (7, 0, 0, 0, 0), (8, 0, 0, 0, 0), (3, 4, 0, 0, 1), (22, 3, 0, 0, 0)] = some 3 := by decide +kernel
theorem bdMo_copy_8 : decode mMo_copy.2.2.1 8 = .ok (.if_icmp .ge 21, 3) := by decide +kernel
theorem bdMo_copy_29 : decode mMo_copy.2.2.1 29 = .ok (.return_, 1) := by decide +kernel
theorem lMo_copy_395_396 {sg : zSig} {sp dp : Int32} (s0 : 0 ≤ sp) (s1 : sp ≤ 0) (d0 : 0 ≤ dp) (d1 : dp ≤ 6965) {Q : Option Value → zHp → Prop} (hq : ∀ rr h', (rr = none ∧ h' = zN (zcp sg 395 396 sp dp 995)) → Q rr h') : zG mMo_copy 411 Q 0 [(0, .ref 395), (1, .int sp), (2, .ref 396), (3, .int dp)] [] (zN sg) := by
  refine zG_run bkMo_copy_0 (lv' := [(4, .int 0), (0, .ref 395), (1, .int sp), (2, .ref 396), (3, .int dp)]) (st' := []) (h' := zN sg) (Ps := []) rfl trivial ?_
  refine zG_pick (lv' := [(0, .ref 395), (1, .int sp), (2, .ref 396), (3, .int dp), (4, .int 0)]) [1, 2, 3, 4, 0] rfl ?_
  refine zlp2 (fun (k : Int32) (sg1 : zSig) => zG mMo_copy 411 Q 3 [(0, .ref 395), (1, .int sp), (2, .ref 396), (3, .int dp), (4, .int k)] [] (zN sg1)) (fun (k : Int32) (sg1 : zSig) => (0 ≤ k) ∧ (k ≤ 995) ∧ (sg1 = zcp sg 395 396 sp dp k)) (fun (k : Int32) (sg1 : zSig) => zmu 995 k) ?_ 0 sg ?_
  · intro k sg1 hI ih
    obtain ⟨k0, k1, kz⟩ := hI
    refine zb_icge (tgt := 29) bkMo_copy_3 bdMo_copy_8 (by decide) (lv' := [(0, .ref 395), (1, .int sp), (2, .ref 396), (3, .int dp), (4, .int k)]) (st' := []) (h' := zN sg1) (x := k) (y := 995) (Ps := []) rfl trivial (fun c1 => ?_) (fun c1 => ?_)
    · skip
      refine zb_vret bkMo_copy_29 bdMo_copy_29 rfl (h' := zN sg1) (Ps := []) rfl trivial rfl ?_
      refine hq _ _ ?_
      refine ⟨rfl, ?_⟩
      rw [kz, show k = 995 by lia]
    · skip
      refine zG_run bkMo_copy_11 (lv' := [(4, .int (k + 1)), (0, .ref 395), (1, .int sp), (2, .ref 396), (3, .int dp)]) (st' := []) (h' := zN (zup sg1 396 (dp + k) (sg1 395 (sp + k)))) (Ps := [zInL (zN sg1) 395 (sp + k), zIn (zN sg1) 396 0 (dp + k)]) rfl (zA (zinL_395 (i := sp + k) (by lia) (by lia)) (zA (zin_396 (i := dp + k) (by lia) (by lia)) trivial)) ?_
      refine zG_pick (lv' := [(0, .ref 395), (1, .int sp), (2, .ref 396), (3, .int dp), (4, .int (k + 1))]) [1, 2, 3, 4, 0] rfl ?_
      refine ih (k + 1) (zup sg1 396 (dp + k) (sg1 395 (sp + k))) ?_ ?_
      · refine ⟨?_, ?_, ?_⟩
        · lia
        · lia
        · rw [kz]; exact zcp_s (by decide) d0 (by lia) k0 (by lia : k < 995) (by decide)
      · exact zmu_up (by lia)
  · refine ⟨?_, ?_, ?_⟩
    · lia
    · lia
    · exact zcp_0.symm
theorem cMo_copy_395_396 {sg : zSig} {sp dp : Int32} (s0 : 0 ≤ sp) (s1 : sp ≤ 0) (d0 : 0 ≤ dp) (d1 : dp ≤ 6965) : zG mMo_copy 411 (fun rr h' => rr = none ∧ h' = zN (zcp sg 395 396 sp dp 995)) 0 [(0, .ref 395), (1, .int sp), (2, .ref 396), (3, .int dp)] [] (zN sg) := lMo_copy_395_396 s0 s1 d0 d1 (fun _ _ q => q)
theorem lMo_copy_396_395 {sg : zSig} {sp dp : Int32} (s0 : 0 ≤ sp) (s1 : sp ≤ 6965) (d0 : 0 ≤ dp) (d1 : dp ≤ 0) {Q : Option Value → zHp → Prop} (hq : ∀ rr h', (rr = none ∧ h' = zN (zcp sg 396 395 sp dp 995)) → Q rr h') : zG mMo_copy 411 Q 0 [(0, .ref 396), (1, .int sp), (2, .ref 395), (3, .int dp)] [] (zN sg) := by
  refine zG_run bkMo_copy_0 (lv' := [(4, .int 0), (0, .ref 396), (1, .int sp), (2, .ref 395), (3, .int dp)]) (st' := []) (h' := zN sg) (Ps := []) rfl trivial ?_
  refine zG_pick (lv' := [(0, .ref 396), (1, .int sp), (2, .ref 395), (3, .int dp), (4, .int 0)]) [1, 2, 3, 4, 0] rfl ?_
  refine zlp2 (fun (k : Int32) (sg1 : zSig) => zG mMo_copy 411 Q 3 [(0, .ref 396), (1, .int sp), (2, .ref 395), (3, .int dp), (4, .int k)] [] (zN sg1)) (fun (k : Int32) (sg1 : zSig) => (0 ≤ k) ∧ (k ≤ 995) ∧ (sg1 = zcp sg 396 395 sp dp k)) (fun (k : Int32) (sg1 : zSig) => zmu 995 k) ?_ 0 sg ?_
  · intro k sg1 hI ih
    obtain ⟨k0, k1, kz⟩ := hI
    refine zb_icge (tgt := 29) bkMo_copy_3 bdMo_copy_8 (by decide) (lv' := [(0, .ref 396), (1, .int sp), (2, .ref 395), (3, .int dp), (4, .int k)]) (st' := []) (h' := zN sg1) (x := k) (y := 995) (Ps := []) rfl trivial (fun c1 => ?_) (fun c1 => ?_)
    · skip
      refine zb_vret bkMo_copy_29 bdMo_copy_29 rfl (h' := zN sg1) (Ps := []) rfl trivial rfl ?_
      refine hq _ _ ?_
      refine ⟨rfl, ?_⟩
      rw [kz, show k = 995 by lia]
    · skip
      refine zG_run bkMo_copy_11 (lv' := [(4, .int (k + 1)), (0, .ref 396), (1, .int sp), (2, .ref 395), (3, .int dp)]) (st' := []) (h' := zN (zup sg1 395 (dp + k) (sg1 396 (sp + k)))) (Ps := [zInL (zN sg1) 396 (sp + k), zIn (zN sg1) 395 0 (dp + k)]) rfl (zA (zinL_396 (i := sp + k) (by lia) (by lia)) (zA (zin_395 (i := dp + k) (by lia) (by lia)) trivial)) ?_
      refine zG_pick (lv' := [(0, .ref 396), (1, .int sp), (2, .ref 395), (3, .int dp), (4, .int (k + 1))]) [1, 2, 3, 4, 0] rfl ?_
      refine ih (k + 1) (zup sg1 395 (dp + k) (sg1 396 (sp + k))) ?_ ?_
      · refine ⟨?_, ?_, ?_⟩
        · lia
        · lia
        · rw [kz]; exact zcp_s (by decide) d0 (by lia) k0 (by lia : k < 995) (by decide)
      · exact zmu_up (by lia)
  · refine ⟨?_, ?_, ?_⟩
    · lia
    · lia
    · exact zcp_0.symm
theorem cMo_copy_396_395 {sg : zSig} {sp dp : Int32} (s0 : 0 ≤ sp) (s1 : sp ≤ 6965) (d0 : 0 ≤ dp) (d1 : dp ≤ 0) : zG mMo_copy 411 (fun rr h' => rr = none ∧ h' = zN (zcp sg 396 395 sp dp 995)) 0 [(0, .ref 396), (1, .int sp), (2, .ref 395), (3, .int dp)] [] (zN sg) := lMo_copy_396_395 s0 s1 d0 d1 (fun _ _ q => q)
theorem lMo_copy_395_399 {sg : zSig} {sp dp : Int32} (s0 : 0 ≤ sp) (s1 : sp ≤ 0) (d0 : 0 ≤ dp) (d1 : dp ≤ 995) {Q : Option Value → zHp → Prop} (hq : ∀ rr h', (rr = none ∧ h' = zN (zcp sg 395 399 sp dp 995)) → Q rr h') : zG mMo_copy 411 Q 0 [(0, .ref 395), (1, .int sp), (2, .ref 399), (3, .int dp)] [] (zN sg) := by
  refine zG_run bkMo_copy_0 (lv' := [(4, .int 0), (0, .ref 395), (1, .int sp), (2, .ref 399), (3, .int dp)]) (st' := []) (h' := zN sg) (Ps := []) rfl trivial ?_
  refine zG_pick (lv' := [(0, .ref 395), (1, .int sp), (2, .ref 399), (3, .int dp), (4, .int 0)]) [1, 2, 3, 4, 0] rfl ?_
  refine zlp2 (fun (k : Int32) (sg1 : zSig) => zG mMo_copy 411 Q 3 [(0, .ref 395), (1, .int sp), (2, .ref 399), (3, .int dp), (4, .int k)] [] (zN sg1)) (fun (k : Int32) (sg1 : zSig) => (0 ≤ k) ∧ (k ≤ 995) ∧ (sg1 = zcp sg 395 399 sp dp k)) (fun (k : Int32) (sg1 : zSig) => zmu 995 k) ?_ 0 sg ?_
  · intro k sg1 hI ih
    obtain ⟨k0, k1, kz⟩ := hI
    refine zb_icge (tgt := 29) bkMo_copy_3 bdMo_copy_8 (by decide) (lv' := [(0, .ref 395), (1, .int sp), (2, .ref 399), (3, .int dp), (4, .int k)]) (st' := []) (h' := zN sg1) (x := k) (y := 995) (Ps := []) rfl trivial (fun c1 => ?_) (fun c1 => ?_)
    · skip
      refine zb_vret bkMo_copy_29 bdMo_copy_29 rfl (h' := zN sg1) (Ps := []) rfl trivial rfl ?_
      refine hq _ _ ?_
      refine ⟨rfl, ?_⟩
      rw [kz, show k = 995 by lia]
    · skip
      refine zG_run bkMo_copy_11 (lv' := [(4, .int (k + 1)), (0, .ref 395), (1, .int sp), (2, .ref 399), (3, .int dp)]) (st' := []) (h' := zN (zup sg1 399 (dp + k) (sg1 395 (sp + k)))) (Ps := [zInL (zN sg1) 395 (sp + k), zIn (zN sg1) 399 0 (dp + k)]) rfl (zA (zinL_395 (i := sp + k) (by lia) (by lia)) (zA (zin_399 (i := dp + k) (by lia) (by lia)) trivial)) ?_
      refine zG_pick (lv' := [(0, .ref 395), (1, .int sp), (2, .ref 399), (3, .int dp), (4, .int (k + 1))]) [1, 2, 3, 4, 0] rfl ?_
      refine ih (k + 1) (zup sg1 399 (dp + k) (sg1 395 (sp + k))) ?_ ?_
      · refine ⟨?_, ?_, ?_⟩
        · lia
        · lia
        · rw [kz]; exact zcp_s (by decide) d0 (by lia) k0 (by lia : k < 995) (by decide)
      · exact zmu_up (by lia)
  · refine ⟨?_, ?_, ?_⟩
    · lia
    · lia
    · exact zcp_0.symm
theorem cMo_copy_395_399 {sg : zSig} {sp dp : Int32} (s0 : 0 ≤ sp) (s1 : sp ≤ 0) (d0 : 0 ≤ dp) (d1 : dp ≤ 995) : zG mMo_copy 411 (fun rr h' => rr = none ∧ h' = zN (zcp sg 395 399 sp dp 995)) 0 [(0, .ref 395), (1, .int sp), (2, .ref 399), (3, .int dp)] [] (zN sg) := lMo_copy_395_399 s0 s1 d0 d1 (fun _ _ q => q)
theorem lMo_copy_399_395 {sg : zSig} {sp dp : Int32} (s0 : 0 ≤ sp) (s1 : sp ≤ 995) (d0 : 0 ≤ dp) (d1 : dp ≤ 0) {Q : Option Value → zHp → Prop} (hq : ∀ rr h', (rr = none ∧ h' = zN (zcp sg 399 395 sp dp 995)) → Q rr h') : zG mMo_copy 411 Q 0 [(0, .ref 399), (1, .int sp), (2, .ref 395), (3, .int dp)] [] (zN sg) := by
  refine zG_run bkMo_copy_0 (lv' := [(4, .int 0), (0, .ref 399), (1, .int sp), (2, .ref 395), (3, .int dp)]) (st' := []) (h' := zN sg) (Ps := []) rfl trivial ?_
  refine zG_pick (lv' := [(0, .ref 399), (1, .int sp), (2, .ref 395), (3, .int dp), (4, .int 0)]) [1, 2, 3, 4, 0] rfl ?_
  refine zlp2 (fun (k : Int32) (sg1 : zSig) => zG mMo_copy 411 Q 3 [(0, .ref 399), (1, .int sp), (2, .ref 395), (3, .int dp), (4, .int k)] [] (zN sg1)) (fun (k : Int32) (sg1 : zSig) => (0 ≤ k) ∧ (k ≤ 995) ∧ (sg1 = zcp sg 399 395 sp dp k)) (fun (k : Int32) (sg1 : zSig) => zmu 995 k) ?_ 0 sg ?_
  · intro k sg1 hI ih
    obtain ⟨k0, k1, kz⟩ := hI
    refine zb_icge (tgt := 29) bkMo_copy_3 bdMo_copy_8 (by decide) (lv' := [(0, .ref 399), (1, .int sp), (2, .ref 395), (3, .int dp), (4, .int k)]) (st' := []) (h' := zN sg1) (x := k) (y := 995) (Ps := []) rfl trivial (fun c1 => ?_) (fun c1 => ?_)
    · skip
      refine zb_vret bkMo_copy_29 bdMo_copy_29 rfl (h' := zN sg1) (Ps := []) rfl trivial rfl ?_
      refine hq _ _ ?_
      refine ⟨rfl, ?_⟩
      rw [kz, show k = 995 by lia]
    · skip
      refine zG_run bkMo_copy_11 (lv' := [(4, .int (k + 1)), (0, .ref 399), (1, .int sp), (2, .ref 395), (3, .int dp)]) (st' := []) (h' := zN (zup sg1 395 (dp + k) (sg1 399 (sp + k)))) (Ps := [zInL (zN sg1) 399 (sp + k), zIn (zN sg1) 395 0 (dp + k)]) rfl (zA (zinL_399 (i := sp + k) (by lia) (by lia)) (zA (zin_395 (i := dp + k) (by lia) (by lia)) trivial)) ?_
      refine zG_pick (lv' := [(0, .ref 399), (1, .int sp), (2, .ref 395), (3, .int dp), (4, .int (k + 1))]) [1, 2, 3, 4, 0] rfl ?_
      refine ih (k + 1) (zup sg1 395 (dp + k) (sg1 399 (sp + k))) ?_ ?_
      · refine ⟨?_, ?_, ?_⟩
        · lia
        · lia
        · rw [kz]; exact zcp_s (by decide) d0 (by lia) k0 (by lia : k < 995) (by decide)
      · exact zmu_up (by lia)
  · refine ⟨?_, ?_, ?_⟩
    · lia
    · lia
    · exact zcp_0.symm
theorem cMo_copy_399_395 {sg : zSig} {sp dp : Int32} (s0 : 0 ≤ sp) (s1 : sp ≤ 995) (d0 : 0 ≤ dp) (d1 : dp ≤ 0) : zG mMo_copy 411 (fun rr h' => rr = none ∧ h' = zN (zcp sg 399 395 sp dp 995)) 0 [(0, .ref 399), (1, .int sp), (2, .ref 395), (3, .int dp)] [] (zN sg) := lMo_copy_399_395 s0 s1 d0 d1 (fun _ _ q => q)
/-- what remember does: d is 1 where the oldest gives way -/
def mRem (sg sg' : zSig) (s : Int32) : Prop := (∀ c j, c ≠ 396 → c ≠ 397 → c ≠ 398 → (c ≠ 393 ∨ j ≠ 6) → sg' c j = sg c j) ∧ ∃ n d, ((sg 393 6 = 8 ∧ n = 7 ∧ d = 1) ∨ (sg 393 6 < 8 ∧ n = sg 393 6 ∧ d = 0)) ∧ sg' 393 6 = n + 1 ∧ (∀ m j, 0 ≤ m → m < n → 0 ≤ j → j < 995 → sg' 396 (995 * m + j) = sg 396 (995 * (m + d) + j)) ∧ (∀ j, 0 ≤ j → j < 995 → sg' 396 (995 * n + j) = sg 395 j) ∧ (∀ m, 0 ≤ m → m < n → sg' 397 m = sg 397 (m + d)) ∧ sg' 397 n = s ∧ ∀ m i, 0 ≤ m → m < n → 0 ≤ i → i < 3 → sg' 398 (3 * m + i) = sg 398 (3 * (m + d) + i)
theorem bkMo_remember_106 : zBk mMo_remember 106 [(1, 0, 1, 0, 0), (5, 10, 3, 2, 3), (0, 0, 0, 0, 0), (1, 0, 1, 0, 0), (5, 10, 4, 3, 4), (0, 0, 0, 0, 995), (1, 0, 1, 0, 0), (5, 10, 6, 0, 6), (4, 2, 0, 0, 0)] = some 123 := by decide +kernel
theorem bkMo_remember_126 : zBk mMo_remember 126 [(1, 0, 1, 0, 0), (5, 10, 5, 4, 5), (1, 0, 1, 0, 0), (5, 10, 6, 0, 6), (1, 1, 0, 0, 0), (8, 0, 0, 0, 0), (1, 0, 1, 0, 0), (18, 0, 0, 0, 0), (5, 10, 6, 0, 6), (0, 0, 0, 0, 1), (4, 0, 0, 0, 0), (6, 10, 6, 0, 6)] = some 146 := by decide +kernel
theorem bdMo_remember_123 : decode mMo_remember.2.2.1 123 = .ok (.invokestatic 76, 3) := by decide +kernel
theorem bdMo_remember_146 : decode mMo_remember.2.2.1 146 = .ok (.return_, 1) := by decide +kernel
theorem lRem_tail {sg : zSig} {s : Int32} (b0 : 0 ≤ sg 393 6) (b1 : sg 393 6 < 8) {Q : Option Value → zHp → Prop} (hq : ∀ rr h', (∃ sg', rr = none ∧ h' = zN sg' ∧ (∀ c j, c ≠ 396 → c ≠ 397 → (c ≠ 393 ∨ j ≠ 6) → sg' c j = sg c j) ∧ sg' 393 6 = sg 393 6 + 1 ∧ (∀ j, ¬ (995 * sg 393 6 ≤ j ∧ j < 995 * sg 393 6 + 995) → sg' 396 j = sg 396 j) ∧ (∀ j, 0 ≤ j → j < 995 → sg' 396 (995 * sg 393 6 + j) = sg 395 j) ∧ (∀ m, m ≠ sg 393 6 → sg' 397 m = sg 397 m) ∧ sg' 397 (sg 393 6) = s) → Q rr h') : zG mMo_remember 411 Q 106 [(0, .ref 393), (1, .int s)] [] (zN sg) := by
  refine zG_run bkMo_remember_106 (lv' := [(0, .ref 393), (1, .int s)]) (st' := [.int (995 * (sg 393 6)), .ref 396, .int 0, .ref 395]) (h' := zN sg) (Ps := [zOb (zN sg) 393 10 ∧ (zN sg).2.2 393 3 = true, zOb (zN sg) 393 10 ∧ (zN sg).2.2 393 4 = true, zOb (zN sg) 393 10]) rfl (zA ⟨zob_393, rfl⟩ (zA ⟨zob_393, rfl⟩ (zA zob_393 trivial))) ?_
  refine zG_calls (As := [.ref 395, .int 0, .ref 396, .int (995 * (sg 393 6))]) (rest := []) (N2 := 411) bdMo_remember_123 okMo_copy lk10_76 (And.intro (by decide) (by decide)) rfl rfl (Nat.le_of_ble_eq_true rfl) (Nat.le_of_ble_eq_true rfl) (Nat.le_refl 411) (Nat.le_refl 411) (cMo_copy_395_396 (sp := 0) (dp := 995 * (sg 393 6)) (by (try rw [zcp_e, if_neg (fun q => absurd q.1 (by decide))]); lia) (by (try rw [zcp_e, if_neg (fun q => absurd q.1 (by decide))]); lia) (by (try rw [zcp_e, if_neg (fun q => absurd q.1 (by decide))]); lia) (by (try rw [zcp_e, if_neg (fun q => absurd q.1 (by decide))]); lia)) ?_
  rintro rr h' ⟨rfl, rfl⟩ -
  refine zb_vret bkMo_remember_126 bdMo_remember_146 rfl (h' := zN (zup (zup (zcp sg 395 396 0 (995 * (sg 393 6)) 995) 397 ((zcp sg 395 396 0 (995 * (sg 393 6)) 995) 393 6) s) 393 6 (((zup (zcp sg 395 396 0 (995 * (sg 393 6)) 995) 397 ((zcp sg 395 396 0 (995 * (sg 393 6)) 995) 393 6) s) 393 6) + 1))) (Ps := [zOb (zN (zcp sg 395 396 0 (995 * (sg 393 6)) 995)) 393 10 ∧ (zN (zcp sg 395 396 0 (995 * (sg 393 6)) 995)).2.2 393 5 = true, zOb (zN (zcp sg 395 396 0 (995 * (sg 393 6)) 995)) 393 10, zIn (zN (zcp sg 395 396 0 (995 * (sg 393 6)) 995)) 397 0 ((zcp sg 395 396 0 (995 * (sg 393 6)) 995) 393 6), zOb (zN (zup (zcp sg 395 396 0 (995 * (sg 393 6)) 995) 397 ((zcp sg 395 396 0 (995 * (sg 393 6)) 995) 393 6) s)) 393 10, zOb (zN (zup (zcp sg 395 396 0 (995 * (sg 393 6)) 995) 397 ((zcp sg 395 396 0 (995 * (sg 393 6)) 995) 393 6) s)) 393 10]) rfl (zA ⟨zob_393, rfl⟩ (zA zob_393 (zA (zin_397 (i := (zcp sg 395 396 0 (995 * (sg 393 6)) 995) 393 6) (by (try rw [zcp_e, if_neg (fun q => absurd q.1 (by decide))]); lia) (by (try rw [zcp_e, if_neg (fun q => absurd q.1 (by decide))]); lia)) (zA zob_393 (zA zob_393 trivial))))) rfl ?_
  have e0 : zcp sg 395 396 0 (995 * sg 393 6) 995 393 6 = sg 393 6 := by rw [zcp_e, if_neg (fun q => absurd q.1 (by decide))]
  refine hq _ _ ⟨_, rfl, rfl, fun c j h1 h2 h4 => ?_, ?_, fun j h => ?_, fun j j0 j1 => ?_, fun m h => ?_, ?_⟩
  · rw [zup_e, if_neg (by rintro ⟨q1, q2⟩; exact h4.elim (fun g => g q1) (fun g => g q2)), zup_a h2, zcp_e, if_neg (fun q => h1 q.1)]
  · rw [zup_s, zup_a (by decide), zcp_e, if_neg (fun q => absurd q.1 (by decide))]
  · rw [zup_a (by decide), zup_a (by decide), zcp_e, if_neg (by lia)]
  · rw [zup_a (by decide), zup_a (by decide), zcp_e, if_pos (by lia)]; congr 1; clear hq b0 b1 j0 j1; grind
  · rw [zup_a (by decide), e0, zup_i h, zcp_e, if_neg (fun q => absurd q.1 (by decide))]
  · rw [zup_a (by decide), e0, zup_s]
theorem bkMo_remember_0 : zBk mMo_remember 0 [(1, 0, 1, 0, 0), (5, 10, 6, 0, 6), (0, 0, 0, 0, 8)] = some 6 := by decide +kernel
theorem bkMo_remember_9 : zBk mMo_remember 9 [(0, 0, 0, 0, 0), (2, 2, 0, 0, 0)] = some 11 := by decide +kernel
theorem bkMo_remember_11 : zBk mMo_remember 11 [(1, 2, 0, 0, 0), (0, 0, 0, 0, 6965)] = some 15 := by decide +kernel
theorem bkMo_remember_40 : zBk mMo_remember 40 [(0, 0, 0, 0, 0), (2, 2, 0, 0, 0)] = some 42 := by decide +kernel
theorem bkMo_remember_42 : zBk mMo_remember 42 [(1, 2, 0, 0, 0), (0, 0, 0, 0, 7)] = some 45 := by decide +kernel
theorem bkMo_remember_68 : zBk mMo_remember 68 [(0, 0, 0, 0, 0), (2, 2, 0, 0, 0)] = some 70 := by decide +kernel
theorem bkMo_remember_70 : zBk mMo_remember 70 [(1, 2, 0, 0, 0), (0, 0, 0, 0, 21)] = some 73 := by decide +kernel
theorem bkMo_remember_96 : zBk mMo_remember 96 [(1, 0, 1, 0, 0), (18, 0, 0, 0, 0), (5, 10, 6, 0, 6), (0, 0, 0, 0, 1), (4, 1, 0, 0, 0), (6, 10, 6, 0, 6)] = some 106 := by decide +kernel
theorem bkMo_remember_76 : zBk mMo_remember 76 [(1, 0, 1, 0, 0), (5, 10, 7, 5, 7), (1, 2, 0, 0, 0), (1, 0, 1, 0, 0), (5, 10, 7, 5, 7), (1, 2, 0, 0, 0), (0, 0, 0, 0, 3), (4, 0, 0, 0, 0), (7, 0, 0, 0, 0), (8, 0, 0, 0, 0), (3, 2, 0, 0, 1), (22, 70, 0, 0, 0)] = some 70 := by decide +kernel
theorem bkMo_remember_48 : zBk mMo_remember 48 [(1, 0, 1, 0, 0), (5, 10, 5, 4, 5), (1, 2, 0, 0, 0), (1, 0, 1, 0, 0), (5, 10, 5, 4, 5), (1, 2, 0, 0, 0), (0, 0, 0, 0, 1), (4, 0, 0, 0, 0), (7, 0, 0, 0, 0), (8, 0, 0, 0, 0), (3, 2, 0, 0, 1), (22, 42, 0, 0, 0)] = some 42 := by decide +kernel
theorem bkMo_remember_18 : zBk mMo_remember 18 [(1, 0, 1, 0, 0), (5, 10, 4, 3, 4), (1, 2, 0, 0, 0), (1, 0, 1, 0, 0), (5, 10, 4, 3, 4), (1, 2, 0, 0, 0), (0, 0, 0, 0, 995), (4, 0, 0, 0, 0), (7, 0, 0, 0, 0), (8, 0, 0, 0, 0), (3, 2, 0, 0, 1), (22, 11, 0, 0, 0)] = some 11 := by decide +kernel
theorem bdMo_remember_6 : decode mMo_remember.2.2.1 6 = .ok (.if_icmp .ne 100, 3) := by decide +kernel
theorem bdMo_remember_15 : decode mMo_remember.2.2.1 15 = .ok (.if_icmp .ge 25, 3) := by decide +kernel
theorem bdMo_remember_45 : decode mMo_remember.2.2.1 45 = .ok (.if_icmp .ge 23, 3) := by decide +kernel
theorem bdMo_remember_73 : decode mMo_remember.2.2.1 73 = .ok (.if_icmp .ge 23, 3) := by decide +kernel
set_option maxRecDepth 8000 in
theorem lMo_remember {sg : zSig} {s : Int32} (b0 : 0 ≤ sg 393 6) (b1 : sg 393 6 ≤ 8) {Q : Option Value → zHp → Prop} (hq : ∀ rr h', (∃ sg', rr = none ∧ h' = zN sg' ∧ mRem sg sg' s) → Q rr h') : zG mMo_remember 411 Q 0 [(0, .ref 393), (1, .int s)] [] (zN sg) := by
  refine zb_icne (tgt := 106) bkMo_remember_0 bdMo_remember_6 (by decide) (lv' := [(0, .ref 393), (1, .int s)]) (st' := []) (h' := zN sg) (x := sg 393 6) (y := 8) (Ps := [zOb (zN sg) 393 10]) rfl (zA zob_393 trivial) (fun c1 => ?_) (fun c1 => ?_)
  · skip
    refine lRem_tail b0 (by lia) (fun rr h' q => hq _ _ ?_)
    obtain ⟨sg', r1, r2, r3, r4, r5, r6, r7, r8⟩ := q
    refine ⟨sg', r1, r2, fun c j h1 h2 h3 h4 => r3 c j h1 h2 h4, sg 393 6, 0, Or.inr ⟨by lia, rfl, rfl⟩, r4, fun m j m0 m1 j0 j1 => ?_, r6, fun m m0 m1 => ?_, r8, fun m i m0 m1 i0 i1 => ?_⟩
    · rw [r5 _ (by lia), show m + 0 = m by grind]
    · rw [r7 m (by lia), show m + 0 = m by grind]
    · rw [r3 398 _ (by decide) (by decide) (Or.inl (by decide)), show m + 0 = m by grind]
  · skip
    refine zG_run bkMo_remember_9 (lv' := [(2, .int 0), (0, .ref 393), (1, .int s)]) (st' := []) (h' := zN sg) (Ps := []) rfl trivial ?_
    refine zG_pick (lv' := [(0, .ref 393), (1, .int s), (2, .int 0)]) [1, 2, 0] rfl ?_
    refine zlp2 (fun (k : Int32) (sg1 : zSig) => zG mMo_remember 411 Q 11 [(0, .ref 393), (1, .int s), (2, .int k)] [] (zN sg1)) (fun (k : Int32) (sg1 : zSig) => (0 ≤ k) ∧ (k ≤ 6965) ∧ (∀ c j, c ≠ 396 → sg1 c j = sg c j) ∧ (∀ j, sg1 396 j = if 0 ≤ j ∧ j < k then sg 396 (j + 995) else sg 396 j)) (fun (k : Int32) (sg1 : zSig) => zmu 6965 k) ?_ 0 sg ?_
    · intro k sg1 hsg1 ihsg1
      obtain ⟨k0, k1, kf, kz⟩ := hsg1
      refine zb_icge (tgt := 40) bkMo_remember_11 bdMo_remember_15 (by decide) (lv' := [(0, .ref 393), (1, .int s), (2, .int k)]) (st' := []) (h' := zN sg1) (x := k) (y := 6965) (Ps := []) rfl trivial (fun c2 => ?_) (fun c2 => ?_)
      · skip
        have ek1 : k = 6965 := by lia
        have f1 := kf
        have z1 := kz
        rw [ek1] at z1
        clear kf kz
        refine zG_run bkMo_remember_40 (lv' := [(2, .int 0), (0, .ref 393), (1, .int s)]) (st' := []) (h' := zN sg1) (Ps := []) rfl trivial ?_
        refine zG_pick (lv' := [(0, .ref 393), (1, .int s), (2, .int 0)]) [1, 2, 0] rfl ?_
        refine zlp2 (fun (k : Int32) (sg2 : zSig) => zG mMo_remember 411 Q 42 [(0, .ref 393), (1, .int s), (2, .int k)] [] (zN sg2)) (fun (k : Int32) (sg2 : zSig) => (0 ≤ k) ∧ (k ≤ 7) ∧ (∀ c j, c ≠ 397 → sg2 c j = sg1 c j) ∧ (∀ j, sg2 397 j = if 0 ≤ j ∧ j < k then sg1 397 (j + 1) else sg1 397 j)) (fun (k : Int32) (sg2 : zSig) => zmu 7 k) ?_ 0 sg1 ?_
        · intro k sg2 hsg2 ihsg2
          obtain ⟨k0, k1, kf, kz⟩ := hsg2
          refine zb_icge (tgt := 68) bkMo_remember_42 bdMo_remember_45 (by decide) (lv' := [(0, .ref 393), (1, .int s), (2, .int k)]) (st' := []) (h' := zN sg2) (x := k) (y := 7) (Ps := []) rfl trivial (fun c3 => ?_) (fun c3 => ?_)
          · skip
            have ek2 : k = 7 := by lia
            have f2 := kf
            have z2 := kz
            rw [ek2] at z2
            clear kf kz
            refine zG_run bkMo_remember_68 (lv' := [(2, .int 0), (0, .ref 393), (1, .int s)]) (st' := []) (h' := zN sg2) (Ps := []) rfl trivial ?_
            refine zG_pick (lv' := [(0, .ref 393), (1, .int s), (2, .int 0)]) [1, 2, 0] rfl ?_
            refine zlp2 (fun (k : Int32) (sg3 : zSig) => zG mMo_remember 411 Q 70 [(0, .ref 393), (1, .int s), (2, .int k)] [] (zN sg3)) (fun (k : Int32) (sg3 : zSig) => (0 ≤ k) ∧ (k ≤ 21) ∧ (∀ c j, c ≠ 398 → sg3 c j = sg2 c j) ∧ (∀ j, sg3 398 j = if 0 ≤ j ∧ j < k then sg2 398 (j + 3) else sg2 398 j)) (fun (k : Int32) (sg3 : zSig) => zmu 21 k) ?_ 0 sg2 ?_
            · intro k sg3 hsg3 ihsg3
              obtain ⟨k0, k1, kf, kz⟩ := hsg3
              refine zb_icge (tgt := 96) bkMo_remember_70 bdMo_remember_73 (by decide) (lv' := [(0, .ref 393), (1, .int s), (2, .int k)]) (st' := []) (h' := zN sg3) (x := k) (y := 21) (Ps := []) rfl trivial (fun c4 => ?_) (fun c4 => ?_)
              · skip
                have ek3 : k = 21 := by lia
                have f3 := kf
                have z3 := kz
                rw [ek3] at z3
                clear kf kz
                refine zG_run bkMo_remember_96 (lv' := [(0, .ref 393), (1, .int s), (2, .int k)]) (st' := []) (h' := zN (zup sg3 393 6 ((sg3 393 6) - 1))) (Ps := [zOb (zN sg3) 393 10, zOb (zN sg3) 393 10]) rfl (zA zob_393 (zA zob_393 trivial)) ?_
                refine zG_pick (lv' := [(0, .ref 393), (1, .int s)]) [0, 1] rfl ?_
                refine zG_nm (sg := zup sg3 393 6 ((sg3 393 6) - 1)) (fun sg4 e4 => ?_)
                have f4 : ∀ c j, (c ≠ 393 ∨ j ≠ 6) → sg4 c j = sg3 c j := fun c j h => by rw [e4, zup_e, if_neg (by rintro ⟨q1, q2⟩; exact h.elim (fun g => g q1) (fun g => g q2))]
                have u3 : sg3 393 6 = 8 := by rw [f3 393 6 (by decide), f2 393 6 (by decide), f1 393 6 (by decide)]; assumption
                have u4 : sg4 393 6 = 7 := by rw [e4, zup_s, u3]; decide
                refine lRem_tail (by rw [u4]; decide) (by rw [u4]; decide) (fun rr h' q => hq _ _ ?_)
                obtain ⟨sg', r1, r2, r3, r4, r5, r6, r7, r8⟩ := q
                rw [u4] at r4 r5 r6 r7 r8
                refine ⟨sg', r1, r2, fun c j h1 h2 h3 h4 => ?_, 7, 1, Or.inl ⟨by assumption, rfl, rfl⟩, r4, fun m j m0 m1 j0 j1 => ?_, fun j j0 j1 => ?_, fun m m0 m1 => ?_, r8, fun m i m0 m1 i0 i1 => ?_⟩
                · rw [r3 c j h1 h2 h4, f4 c j h4, f3 c j h3, f2 c j h2, f1 c j h1]
                · rw [r5 _ (by lia), f4 _ _ (Or.inl (by decide)), f3 _ _ (by decide), f2 _ _ (by decide), z1 (995 * m + j), if_pos (by lia)]; congr 1; clear hq r3 r5 r6 r7 z1 z2 z3 f1 f2 f3 f4 b0 b1 m0 m1 j0 j1; grind
                · rw [r6 j j0 j1, f4 _ _ (Or.inl (by decide)), f3 _ _ (by decide), f2 _ _ (by decide), f1 _ _ (by decide)]
                · rw [r7 m (by lia), f4 _ _ (Or.inl (by decide)), f3 _ _ (by decide), z2, if_pos (by lia), f1 _ _ (by decide)]
                · rw [r3 398 _ (by decide) (by decide) (Or.inl (by decide)), f4 _ _ (Or.inl (by decide)), z3, if_pos (by lia), f2 _ _ (by decide), f1 _ _ (by decide)]; congr 1; clear hq r3 r5 r6 r7 z1 z2 z3 f1 f2 f3 f4 b0 b1 m0 m1 i0 i1; grind
              · skip
                refine zG_run bkMo_remember_76 (lv' := [(2, .int (k + 1)), (0, .ref 393), (1, .int s)]) (st' := []) (h' := zN (zup sg3 398 k (sg3 398 (k + 3)))) (Ps := [zOb (zN sg3) 393 10 ∧ (zN sg3).2.2 393 7 = true, zOb (zN sg3) 393 10 ∧ (zN sg3).2.2 393 7 = true, zInL (zN sg3) 398 (k + 3), zIn (zN sg3) 398 0 k]) rfl (zA ⟨zob_393, rfl⟩ (zA ⟨zob_393, rfl⟩ (zA (zinL_398 (i := k + 3) (by lia) (by lia)) (zA (zin_398 (i := k) (by lia) (by lia)) trivial)))) ?_
                refine zG_pick (lv' := [(0, .ref 393), (1, .int s), (2, .int (k + 1))]) [1, 2, 0] rfl ?_
                refine ihsg3 (k + 1) (zup sg3 398 k (sg3 398 (k + 3))) ?_ ?_
                · refine ⟨?_, ?_, ?_, ?_⟩
                  · lia
                  · lia
                  · intro c j h; rw [zup_a h]; exact kf c j h
                  · intro j; have e1 := kz (k + 3); rw [if_neg (by lia)] at e1; have e2 := kz j; rw [zup_e, e1]; by_cases hj : j = k
                    · rw [if_pos ⟨rfl, hj⟩, if_pos (by lia), hj]
                    · rw [if_neg (fun q => hj q.2), e2]; by_cases hk : 0 ≤ j ∧ j < k
                      · rw [if_pos hk, if_pos (by lia)]
                      · rw [if_neg hk, if_neg (by lia)]
                · exact zmu_up (by lia)
            · refine ⟨?_, ?_, ?_, ?_⟩
              · lia
              · lia
              · intro c j _; rfl
              · intro j; rw [if_neg (by lia)]
          · skip
            refine zG_run bkMo_remember_48 (lv' := [(2, .int (k + 1)), (0, .ref 393), (1, .int s)]) (st' := []) (h' := zN (zup sg2 397 k (sg2 397 (k + 1)))) (Ps := [zOb (zN sg2) 393 10 ∧ (zN sg2).2.2 393 5 = true, zOb (zN sg2) 393 10 ∧ (zN sg2).2.2 393 5 = true, zInL (zN sg2) 397 (k + 1), zIn (zN sg2) 397 0 k]) rfl (zA ⟨zob_393, rfl⟩ (zA ⟨zob_393, rfl⟩ (zA (zinL_397 (i := k + 1) (by lia) (by lia)) (zA (zin_397 (i := k) (by lia) (by lia)) trivial)))) ?_
            refine zG_pick (lv' := [(0, .ref 393), (1, .int s), (2, .int (k + 1))]) [1, 2, 0] rfl ?_
            refine ihsg2 (k + 1) (zup sg2 397 k (sg2 397 (k + 1))) ?_ ?_
            · refine ⟨?_, ?_, ?_, ?_⟩
              · lia
              · lia
              · intro c j h; rw [zup_a h]; exact kf c j h
              · intro j; have e1 := kz (k + 1); rw [if_neg (by lia)] at e1; have e2 := kz j; rw [zup_e, e1]; by_cases hj : j = k
                · rw [if_pos ⟨rfl, hj⟩, if_pos (by lia), hj]
                · rw [if_neg (fun q => hj q.2), e2]; by_cases hk : 0 ≤ j ∧ j < k
                  · rw [if_pos hk, if_pos (by lia)]
                  · rw [if_neg hk, if_neg (by lia)]
            · exact zmu_up (by lia)
        · refine ⟨?_, ?_, ?_, ?_⟩
          · lia
          · lia
          · intro c j _; rfl
          · intro j; rw [if_neg (by lia)]
      · skip
        refine zG_run bkMo_remember_18 (lv' := [(2, .int (k + 1)), (0, .ref 393), (1, .int s)]) (st' := []) (h' := zN (zup sg1 396 k (sg1 396 (k + 995)))) (Ps := [zOb (zN sg1) 393 10 ∧ (zN sg1).2.2 393 4 = true, zOb (zN sg1) 393 10 ∧ (zN sg1).2.2 393 4 = true, zInL (zN sg1) 396 (k + 995), zIn (zN sg1) 396 0 k]) rfl (zA ⟨zob_393, rfl⟩ (zA ⟨zob_393, rfl⟩ (zA (zinL_396 (i := k + 995) (by lia) (by lia)) (zA (zin_396 (i := k) (by lia) (by lia)) trivial)))) ?_
        refine zG_pick (lv' := [(0, .ref 393), (1, .int s), (2, .int (k + 1))]) [1, 2, 0] rfl ?_
        refine ihsg1 (k + 1) (zup sg1 396 k (sg1 396 (k + 995))) ?_ ?_
        · refine ⟨?_, ?_, ?_, ?_⟩
          · lia
          · lia
          · intro c j h; rw [zup_a h]; exact kf c j h
          · intro j; have e1 := kz (k + 995); rw [if_neg (by lia)] at e1; have e2 := kz j; rw [zup_e, e1]; by_cases hj : j = k
            · rw [if_pos ⟨rfl, hj⟩, if_pos (by lia), hj]
            · rw [if_neg (fun q => hj q.2), e2]; by_cases hk : 0 ≤ j ∧ j < k
              · rw [if_pos hk, if_pos (by lia)]
              · rw [if_neg hk, if_neg (by lia)]
        · exact zmu_up (by lia)
    · refine ⟨?_, ?_, ?_, ?_⟩
      · lia
      · lia
      · intro c j _; rfl
      · intro j; rw [if_neg (by lia)]
theorem cMo_remember {sg : zSig} {s : Int32} (b0 : 0 ≤ sg 393 6) (b1 : sg 393 6 ≤ 8) : zG mMo_remember 411 (fun rr h' => ∃ sg', rr = none ∧ h' = zN sg' ∧ mRem sg sg' s) 0 [(0, .ref 393), (1, .int s)] [] (zN sg) := lMo_remember b0 b1 (fun _ _ q => q)
def mNo (sg : zSig) (f t a : Int32) : zSig := zup (zup (zup sg 398 (3 * (sg 393 6 - 1)) f) 398 (3 * (sg 393 6 - 1) + 1) t) 398 (3 * (sg 393 6 - 1) + 2) a
theorem bkMo_noteAct_0 : zBk mMo_noteAct 0 [(0, 0, 0, 0, 3), (1, 0, 1, 0, 0), (5, 10, 6, 0, 6), (0, 0, 0, 0, 1), (4, 1, 0, 0, 0), (4, 2, 0, 0, 0), (2, 4, 0, 0, 0), (1, 0, 1, 0, 0), (5, 10, 7, 5, 7), (1, 4, 0, 0, 0), (1, 1, 0, 0, 0), (8, 0, 0, 0, 0), (1, 0, 1, 0, 0), (5, 10, 7, 5, 7), (1, 4, 0, 0, 0), (0, 0, 0, 0, 1), (4, 0, 0, 0, 0), (1, 2, 0, 0, 0), (8, 0, 0, 0, 0), (1, 0, 1, 0, 0), (5, 10, 7, 5, 7), (1, 4, 0, 0, 0), (0, 0, 0, 0, 2), (4, 0, 0, 0, 0), (1, 3, 0, 0, 0), (8, 0, 0, 0, 0)] = some 38 := by decide +kernel
theorem bdMo_noteAct_38 : decode mMo_noteAct.2.2.1 38 = .ok (.return_, 1) := by decide +kernel
theorem cMo_noteAct {sg : zSig} {f t a : Int32} (b0 : 1 ≤ sg 393 6) (b1 : sg 393 6 ≤ 8) : zG mMo_noteAct 411 (fun rr h' => rr = none ∧ h' = zN (mNo sg f t a)) 0 [(0, .ref 393), (1, .int f), (2, .int t), (3, .int a)] [] (zN sg) := by
  refine zb_vret bkMo_noteAct_0 bdMo_noteAct_38 rfl (h' := zN (zup (zup (zup sg 398 (3 * ((sg 393 6) - 1)) f) 398 ((3 * ((sg 393 6) - 1)) + 1) t) 398 ((3 * ((sg 393 6) - 1)) + 2) a)) (Ps := [zOb (zN sg) 393 10, zOb (zN sg) 393 10 ∧ (zN sg).2.2 393 7 = true, zIn (zN sg) 398 0 (3 * ((sg 393 6) - 1)), zOb (zN (zup sg 398 (3 * ((sg 393 6) - 1)) f)) 393 10 ∧ (zN (zup sg 398 (3 * ((sg 393 6) - 1)) f)).2.2 393 7 = true, zIn (zN (zup sg 398 (3 * ((sg 393 6) - 1)) f)) 398 0 ((3 * ((sg 393 6) - 1)) + 1), zOb (zN (zup (zup sg 398 (3 * ((sg 393 6) - 1)) f) 398 ((3 * ((sg 393 6) - 1)) + 1) t)) 393 10 ∧ (zN (zup (zup sg 398 (3 * ((sg 393 6) - 1)) f) 398 ((3 * ((sg 393 6) - 1)) + 1) t)).2.2 393 7 = true, zIn (zN (zup (zup sg 398 (3 * ((sg 393 6) - 1)) f) 398 ((3 * ((sg 393 6) - 1)) + 1) t)) 398 0 ((3 * ((sg 393 6) - 1)) + 2)]) rfl (zA zob_393 (zA ⟨zob_393, rfl⟩ (zA (zin_398 (i := 3 * ((sg 393 6) - 1)) (by lia) (by lia)) (zA ⟨zob_393, rfl⟩ (zA (zin_398 (i := (3 * ((sg 393 6) - 1)) + 1) (by lia) (by lia)) (zA ⟨zob_393, rfl⟩ (zA (zin_398 (i := (3 * ((sg 393 6) - 1)) + 2) (by lia) (by lia)) trivial))))))) rfl ?_
  exact ⟨rfl, rfl⟩
